import java.lang.reflect.Method;
import java.nio.charset.StandardCharsets;
import java.util.Arrays;
import java.util.HashMap;
import java.util.Map;
import java.util.Random;

/** Drawn runs of calls, each answered by the class and by the document's plain words (PlainWall). */
public final class RandomRunsTest {
    /**
     * Of each method what its arguments are: c clock, h hook, n days on, D days, w and a digit what, m push, b bits of clocks, o off,
     * d parts, e delta, s seed, y how many.
     */
    private static final String[] CALLS = {
        "told w5", "clock c w8", "clock c w8", "hearing c c", "apart c c", "pull c", "days D", "days D", "days D", "undo D", "undo D",
        "step c c", "right", "groups", "off c n", "hang c h", "hang c h", "hook h w1", "standing n", "pushed m n", "beginnings c c n w2",
        "away c n", "hold n", "hung b n w2", "hung b n w2", "own c o d n w2", "look c n w1", "book c o", "book c o", "infected n", "infected n", "fraud c n",
        "stays c c w1", "drawn c c e n", "comes c c n w2", "leader n", "better n w1", "wanted c o n w1", "sale c n", "honest n", "bound",
        "winter c n s", "winters c n s y", "image", "image", "restore", "count w1", "fault"};

    private static final Map<String, Method> OURS = Calls.methodsOf(WallClocks.class);
    private static final Map<String, Method> PLAIN = Calls.methodsOf(PlainWall.class);
    private static long answers = 0;
    private static final Map<String, Map<String, Integer>> SEEN = new HashMap<>();

    private final Random random;
    private final WallTexts texts;
    private final WallClocks ours = new WallClocks();
    private final PlainWall plain = new PlainWall();
    private final StringBuilder story = new StringBuilder();
    private boolean wrong = false;

    private RandomRunsTest(long seed) {
        random = new Random(seed);
        texts = new WallTexts(random);
    }

    public static void main(String[] args) {
        long first = args.length > 0 ? Long.parseLong(args[0]) : 1;
        int runs = args.length > 1 ? Integer.parseInt(args[1]) : 400;
        int wrongRuns = 0;
        for (long seed = first; seed < first + runs && wrongRuns < 5; seed++) {
            RandomRunsTest run = new RandomRunsTest(seed);
            run.go();
            if (run.wrong) {
                wrongRuns++;
                System.out.println("seed " + seed + ":\n" + run.story);
            }
        }
        System.out.println(wrongRuns == 0 ? answers + " answers of drawn runs are as due" : wrongRuns + " drawn runs are not as due");
        if (args.length > 2) {
            SEEN.forEach((name, by) -> System.out.println(name + " " + by));
        }
        System.exit(wrongRuns == 0 && answers > 0 ? 0 : 1);
    }

    private void go() {
        for (int k = 0; k < 60 && !wrong; k++) {
            if (k == 0 || random.nextInt(40) == 0) {
                putWall(random.nextInt(6) > 0 ? texts.whole() : texts.any());
            } else if (random.nextInt(50) == 0) {
                both("feed", random.nextInt(), random.nextInt(), random.nextInt(), random.nextInt(), random.nextInt());
            } else {
                drawCall();
            }
        }
        for (int k = 0; k < 40 && !wrong; k++) {
            putWall(texts.any());
        }
    }

    private void putWall(String text) {
        if (random.nextInt(10) == 0) {
            both("wall", 0);
        } else if (random.nextInt(40) > 0) {
            emptyTape();
        }
        byte[] bytes = text.getBytes(StandardCharsets.ISO_8859_1);
        int[] w = Check.wordsOf(bytes);
        story.append("  text ").append(text).append('\n');
        for (int i = 0; i < w.length; i += 5) {
            both("feed", w[i], w[i + 1], w[i + 2], w[i + 3], w[i + 4]);
        }
        both("wall", random.nextInt(20) == 0 ? random.nextInt(bytes.length + 2) : Math.min(bytes.length, 600));
        both("fault");
        both("told", random.nextInt(6));
    }

    /** By a text with a fault, so that all else stays. */
    private void emptyTape() {
        both("feed", 0, 0, 0, 0, 0);
        both("wall", 1);
    }

    private void drawCall() {
        String[] parts = CALLS[random.nextInt(CALLS.length)].split(" ");
        int[] arguments = new int[parts.length - 1];
        for (int i = 0; i < arguments.length; i++) {
            arguments[i] = drawArgument(parts[0], parts[i + 1], i > 0 ? arguments[0] : 0);
        }
        both(parts[0], arguments);
    }

    private int drawArgument(String name, String kind, int first) {
        switch (kind.charAt(0)) {
            case 'c':
                return edge(0, Math.max(0, plain.clocks() - 1));
            case 'h':
                return edge(0, Math.max(0, plain.hooks() - 1));
            case 'w':
                return edge(0, kind.charAt(1) - '0');
            case 'm':
                return edge(1, 200);
            case 'b':
                return random.nextInt(15) == 0 ? random.nextInt() : random.nextInt(Math.max(1, 1 << Math.min(plain.clocks(), 3 + random.nextInt(6))));
            case 'o':
                return drawOff(first);
            case 'd':
                return random.nextInt(3) == 0 ? edge(0, 999) : random.nextInt(20);
            case 'e':
                return edge(0, 999);
            case 's':
                return random.nextInt();
            case 'y':
                return random.nextInt(4) == 0 ? edge(1, 60) : 1 + random.nextInt(20);
            case 'D':
                return random.nextInt(3) == 0 ? edge(1, 400) : 1 + random.nextInt(15);
            default:
                return drawDaysOn(name);
        }
    }

    /** The dear ones get fewer days, since PlainWall takes its time. */
    private int drawDaysOn(String name) {
        boolean dear = " infected hung look own wanted sale honest ".contains(" " + name + " ");
        int drawn = random.nextInt(20);
        if (name.equals("infected") && drawn < 15) {
            return 3;
        }
        if (drawn == 0) {
            return dear ? random.nextInt(2) * 101 : edge(1, 100);
        }
        return drawn < 15 ? 1 + random.nextInt(6) : 1 + random.nextInt(dear ? 15 : 60);
    }

    private int drawOff(int clock) {
        int drawn = random.nextInt(10);
        if (drawn == 0 || clock < 0 || clock >= plain.clocks()) {
            return drawn < 5 ? edge(-99_999, 99_999) : WallClocks.VOID;
        }
        if (drawn == 1) {
            return WallClocks.VOID;
        }
        int changed = drawn < 6 ? 0 : random.nextInt(plain.clocks());
        return plain.offIf(changed, drawn < 6 ? 7 : random.nextInt(201) - 100, clock, 3);
    }

    private int edge(int least, int greatest) {
        int drawn = random.nextInt(40);
        if (drawn == 0) {
            return least - 1 - random.nextInt(2) * random.nextInt(1000);
        }
        if (drawn == 1) {
            return greatest + 1 + random.nextInt(2) * random.nextInt(1000);
        }
        return drawn == 2 ? least : drawn == 3 ? greatest : least + random.nextInt(greatest - least + 1);
    }

    private void both(String name, int... arguments) {
        if (wrong) {
            return;
        }
        String got = Calls.answer(OURS.get(name), ours, arguments);
        String want = Calls.answer(PLAIN.get(name), plain, arguments);
        answers++;
        SEEN.computeIfAbsent(name, k -> new HashMap<>()).merge(want.length() > 4 ? want.substring(0, 4) : want, 1, Integer::sum);
        if (!name.equals("feed")) {
            story.append("  ").append(name).append(Arrays.toString(arguments)).append(" answered ").append(got).append('\n');
        }
        if (!got.equals(want)) {
            wrong = true;
            story.append("  due is ").append(want).append('\n');
        }
    }
}
