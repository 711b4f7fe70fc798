import java.lang.reflect.Method;
import java.util.ArrayList;
import java.util.Arrays;
import java.util.List;
import java.util.Map;

/**
 * Of every method each argument at its least and greatest, and the first one beyond on either side: what is refused throws what
 * the document names, NoSuchElementException ahead of others, and changes nothing; what only asks changes nothing either.
 */
public final class RefusedCallsTest {
    private static final String NO_SUCH = "NoSuchElementException";
    private static final String ILLEGAL = "IllegalArgumentException";
    private static final int MIN = Integer.MIN_VALUE;
    private static final int MAX = Integer.MAX_VALUE;

    /** clock: a clock; other: one that is not the first; hook: a hook; seed: any number; else from .. to. */
    private static final String[] CALLS = {
        "told 0..5", "clock clock 0..8", "hearing clock other", "apart clock other", "pull clock", "days 1..400", "undo 1..400", "step clock other",
        "off clock 1..100", "hang clock hook", "hook hook 0..1", "standing 1..100", "pushed 1..200 1..100", "beginnings clock other 1..100 0..2",
        "away clock 1..100", "hold 1..100", "own clock -99999..99999 0..999 1..100 0..2", "look clock 1..100 0..1", "book clock -99999..99999",
        "infected 1..100", "fraud clock 1..100", "stays clock other 0..1", "drawn clock other 0..999 1..100", "comes clock other 1..100 0..2",
        "leader 1..100", "better 1..100 0..1", "wanted clock -99999..99999 1..100 0..1", "sale clock 1..100", "honest 1..100",
        "winter clock 1..100 seed", "winters clock 1..100 seed 1..60"};
    private static final String CHANGING = " days undo hang book ";

    private static final String SMALL = "board 1;clock 0 0 103 2 0 10;clock 0 1 98 1 3 30;hook 0 2;damp 3 4;key 1 9;sound 0;right 20;";
    private static final String FULL = "board 1;board 2;board 3;board 4;clock 0 0 101 1 0 10;clock 0 1 102 2 4 20;clock 0 2 103 3 3 30;clock 1 3 97 4 0 40;"
            + "clock 1 4 96 5 1 50;clock 2 5 95 6 0 60;clock 2 6 94 7 2 70;clock 3 7 93 8 0 80;hook 0 10;hook 0 11;hook 1 12;hook 1 13;hook 2 14;hook 3 15;"
            + "hears 0 7 40;key 5 30;damp 2 9;sound 0;sound 2;sound 4;sound 6;";

    private static final Map<String, Method> METHODS = Calls.methodsOf(WallClocks.class);

    private final WallClocks x;
    private final int clocks;
    private final int hooks;

    private RefusedCallsTest(String text) {
        x = text.isEmpty() ? new WallClocks() : Check.walled(text);
        clocks = x.told(1);
        hooks = x.told(2);
    }

    public static void main(String[] args) {
        for (String text : new String[] {SMALL, FULL}) {
            RefusedCallsTest test = new RefusedCallsTest(text);
            for (String call : CALLS) {
                test.edgesOf(call.split(" "));
                test.beyondEdgesOf(call.split(" "));
                test.twoWrongOf(call.split(" "));
            }
            test.bitsOfHung();
            test.countsOfAnything();
        }
        RefusedCallsTest small = new RefusedCallsTest(SMALL);
        for (String call : CALLS) {
            small.manyOf(call.split(" "));
        }
        RefusedCallsTest empty = new RefusedCallsTest("");
        for (String call : CALLS) {
            empty.onNoClocks(call.split(" "));
        }
        empty.bitsOfHung();
        empty.countsOfAnything();
        withoutHooks();
        Check.end();
    }

    // ---- what may stand for an argument

    private int least(String kind) {
        return kind.contains("..") ? Integer.parseInt(kind.substring(0, kind.indexOf('.'))) : kind.equals("other") ? 1 : kind.equals("seed") ? MIN : 0;
    }

    private int greatest(String kind) {
        if (kind.contains("..")) {
            return Integer.parseInt(kind.substring(kind.lastIndexOf('.') + 1));
        }
        return kind.equals("seed") ? MAX : kind.equals("hook") ? hooks - 1 : clocks - 1;
    }

    private static boolean isNamed(String kind) {
        return kind.equals("clock") || kind.equals("other") || kind.equals("hook");
    }

    private List<Integer> beyond(String name, String kind) {
        if (kind.equals("seed")) {
            return List.of();
        }
        int below = isNamed(kind) ? -1 : least(kind) - 1;
        List<Integer> wrong = new ArrayList<>(List.of(below, greatest(kind) + 1, MIN + 1, MAX));
        if (!name.equals("book")) {
            wrong.add(MIN);
        }
        return wrong;
    }

    private int[] leastOf(String[] call) {
        int[] arguments = new int[call.length - 1];
        for (int i = 0; i < arguments.length; i++) {
            arguments[i] = least(call[i + 1]);
        }
        return arguments;
    }

    // ---- the edges

    /** Each argument at its least and at its greatest, the others at their least. */
    private void edgesOf(String[] call) {
        for (int i = 1; i < call.length; i++) {
            for (int edge : new int[] {least(call[i]), greatest(call[i])}) {
                int[] arguments = leastOf(call);
                arguments[i - 1] = edge;
                if (call.length > 2 && call[2].equals("other") && arguments[0] == arguments[1]) {
                    arguments[1] = 0;
                }
                String ahead = Check.stateOf(x);
                Check.due(written(call, arguments) + " throws nothing", false, () -> answerTo(call, arguments).endsWith("Exception"));
                if (!CHANGING.contains(" " + call[0] + " ")) {
                    Check.due(written(call, arguments) + " changes nothing", ahead, () -> Check.stateOf(x));
                }
            }
        }
    }

    /** Each argument beyond its edges, the others at their least. */
    private void beyondEdgesOf(String[] call) {
        for (int i = 1; i < call.length; i++) {
            for (int wrong : beyond(call[0], call[i])) {
                int[] arguments = leastOf(call);
                arguments[i - 1] = wrong;
                refused(call, arguments, isNamed(call[i]) ? NO_SUCH : ILLEGAL);
            }
        }
        if (call.length > 2 && call[2].equals("other")) {
            for (int clock = 0; clock < clocks; clock++) {
                int[] arguments = leastOf(call);
                arguments[0] = clock;
                arguments[1] = clock;
                refused(call, arguments, ILLEGAL);
            }
        }
    }

    /** "NoSuchElementException: .. (so below, ahead of others)". */
    private void twoWrongOf(String[] call) {
        for (int i = 1; i < call.length; i++) {
            for (int j = i + 1; j < call.length; j++) {
                for (int first : beyond(call[0], call[i])) {
                    for (int second : beyond(call[0], call[j])) {
                        int[] arguments = leastOf(call);
                        arguments[i - 1] = first;
                        arguments[j - 1] = second;
                        refused(call, arguments, isNamed(call[i]) || isNamed(call[j]) ? NO_SUCH : ILLEGAL);
                    }
                }
            }
        }
    }

    private void refused(String[] call, int[] arguments, String thrown) {
        String ahead = Check.stateOf(x);
        Check.due(written(call, arguments), thrown, () -> answerTo(call, arguments));
        Check.due(written(call, arguments) + " changes nothing", ahead, () -> Check.stateOf(x));
    }

    /** Numbers from everywhere, in every order: nothing but what is due is thrown. */
    private void manyOf(String[] call) {
        int[] numbers = {MIN, -100_000, -1, 0, 1, 2, 61, 100, 1000, MAX};
        int[] arguments = new int[call.length - 1];
        int ways = 1;
        for (int i = 0; i < arguments.length; i++) {
            ways *= numbers.length;
        }
        for (int way = 0; way < ways; way++) {
            int rest = way;
            for (int i = 0; i < arguments.length; i++) {
                arguments[i] = numbers[rest % numbers.length];
                rest /= numbers.length;
            }
            String got = answerTo(call, arguments);
            String due = thrownBy(call, arguments);
            if (due.isEmpty() ? got.endsWith("Exception") : !got.equals(due)) {
                Check.due(written(call, arguments), due, () -> got);
            }
        }
        Check.due(call[0] + " with " + ways + " rows of arguments leaves two clocks", 2, () -> x.told(1));
    }

    private String thrownBy(String[] call, int[] arguments) {
        boolean illegal = call.length > 2 && call[2].equals("other") && arguments[0] == arguments[1];
        for (int i = 0; i < arguments.length; i++) {
            String kind = call[i + 1];
            boolean outside = arguments[i] < (isNamed(kind) ? 0 : least(kind)) || arguments[i] > greatest(kind);
            if (outside && isNamed(kind)) {
                return NO_SUCH;
            }
            illegal |= outside && !(call[0].equals("book") && arguments[i] == WallClocks.VOID);
        }
        return illegal ? ILLEGAL : "";
    }

    /** "also bits of no CLOCKS, none, or above 4". */
    private void bitsOfHung() {
        String[] call = {"hung"};
        for (int bits = -1; bits <= 2 << clocks; bits++) {
            boolean refused = bits < 1 || bits >= 1 << clocks || Integer.bitCount(bits) > 4;
            int[] arguments = {bits, 1, 0};
            if (refused) {
                refused(call, arguments, ILLEGAL);
            } else {
                String ahead = Check.stateOf(x);
                Check.due(written(call, arguments) + " throws nothing", false, () -> answerTo(call, arguments).endsWith("Exception"));
                Check.due(written(call, arguments) + " changes nothing", ahead, () -> Check.stateOf(x));
            }
        }
        for (int bits : new int[] {MIN, MAX, 1 << 30, MIN + 1, 256, 257}) {
            refused(call, new int[] {bits, 1, 0}, ILLEGAL);
        }
        for (int n : new int[] {MIN, -1, 0, 101, MAX}) {
            refused(call, new int[] {1, n, 0}, ILLEGAL);
        }
        for (int what : new int[] {MIN, -1, 3, MAX}) {
            refused(call, new int[] {1, 1, what}, ILLEGAL);
        }
        if (clocks > 0) {
            for (int what = 0; what <= 2; what++) {
                int[] arguments = {1, 100, what};
                Check.due(written(call, arguments) + " throws nothing", false, () -> answerTo(call, arguments).endsWith("Exception"));
            }
        }
    }

    /** "NONE for others": count refuses nothing. */
    private void countsOfAnything() {
        for (int what : new int[] {MIN, -2, -1, 2, 3, MAX}) {
            Check.due("count " + what, WallClocks.NONE, () -> x.count(what));
        }
    }

    /** "No BOARDS": there is no clock or hook 0; all else is answered, or refused as ever. */
    private void onNoClocks(String[] call) {
        boolean named = false;
        for (int i = 1; i < call.length; i++) {
            named |= isNamed(call[i]);
        }
        int[] arguments = leastOf(call);
        if (named) {
            refused(call, arguments, NO_SUCH);
            Arrays.fill(arguments, MIN);
            refused(call, arguments, NO_SUCH);
            Arrays.fill(arguments, MAX);
            refused(call, arguments, NO_SUCH);
        } else {
            edgesOf(call);
            beyondEdgesOf(call);
            twoWrongOf(call);
        }
    }

    private static void withoutHooks() {
        WallClocks x = Check.walled("board 5;clock 0 0 100 1 0 0;");
        Check.noSuch("hang on none", () -> x.hang(0, 0));
        Check.noSuch("no hook", () -> x.hook(0, 0));
        Check.noSuch("no hook, nor such a what", () -> x.hook(0, 9));
        Check.due("better without hooks", "-1 -1", () -> x.better(100, 0) + " " + x.better(100, 1));
        Check.due("hung without hooks", "-1 -1 -1", () -> x.hung(1, 1, 0) + " " + x.hung(1, 1, 1) + " " + x.hung(1, 1, 2));
    }

    // ---- calls by name

    private static String written(String[] call, int[] arguments) {
        return call[0] + Arrays.toString(arguments);
    }

    private String answerTo(String[] call, int[] arguments) {
        return Calls.answer(METHODS.get(call[0]), x, arguments);
    }
}
