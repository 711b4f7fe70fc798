import java.nio.charset.StandardCharsets;
import java.util.NoSuchElementException;
import java.util.function.Supplier;

/** What the tests share: comparing an answer with the one that is due, and feeding a text. */
final class Check {
    private static int wrong = 0;
    private static int seen = 0;

    private Check() {
    }

    static void due(String what, Object want, Supplier<Object> call) {
        String got = answerOf(call);
        seen++;
        if (!got.equals(String.valueOf(want))) {
            wrong++;
            System.out.println(what + " answered " + got + ", due is " + want);
        }
    }

    /** An answer as a text; an exception by its whole name, so that one of a class below is told apart. */
    static String answerOf(Supplier<Object> call) {
        try {
            return String.valueOf(call.get());
        } catch (RuntimeException thrown) {
            return thrown.getClass().getSimpleName();
        }
    }

    static void noSuch(String what, Supplier<Object> call) {
        due(what, NoSuchElementException.class.getSimpleName(), call);
    }

    static void illegal(String what, Supplier<Object> call) {
        due(what, IllegalArgumentException.class.getSimpleName(), call);
    }

    /** Ends the program: 1 if an answer was not the one that is due, or none was looked at. */
    static void end() {
        System.out.println(wrong == 0 ? seen + " answers are as due" : wrong + " of " + seen + " answers are not as due");
        System.exit(wrong == 0 && seen > 0 ? 0 : 1);
    }

    /** Puts a text on the tape, with zero bytes up to a full twenty, and answers its length. */
    static int feed(WallClocks clocks, String text) {
        byte[] bytes = text.getBytes(StandardCharsets.ISO_8859_1);
        int[] words = wordsOf(bytes);
        for (int i = 0; i < words.length; i += 5) {
            clocks.feed(words[i], words[i + 1], words[i + 2], words[i + 3], words[i + 4]);
        }
        return bytes.length;
    }

    /** Five numbers for every twenty bytes begun. */
    static int[] wordsOf(byte[] bytes) {
        int[] words = new int[(bytes.length + 19) / 20 * 5];
        for (int i = 0; i < bytes.length; i++) {
            words[i / 4] |= (bytes[i] & 255) << 24 - i % 4 * 8;
        }
        return words;
    }

    static int read(WallClocks clocks, String text) {
        return clocks.wall(feed(clocks, text));
    }

    /** A new object refuses this text with this kind of fault at this place. */
    static void fault(String text, int kind, int place) {
        WallClocks x = new WallClocks();
        due("wall of \"" + text + "\"", kind - 10, () -> read(x, text));
        due("fault of \"" + text + "\"", place, x::fault);
    }

    /** A new object takes this text, and has so many clocks then. */
    static void whole(String text, int clocks) {
        WallClocks x = new WallClocks();
        due("wall of \"" + text + "\"", clocks, () -> read(x, text));
        due("fault of \"" + text + "\"", WallClocks.NONE, x::fault);
    }

    /** All that is told of today, and of where it leads to; the book is read by telling it the same again. */
    static String stateOf(WallClocks x) {
        StringBuilder state = new StringBuilder();
        for (int what = 0; what <= 5; what++) {
            state.append(x.told(what)).append(' ');
        }
        for (int clock = 0; clock < x.told(1); clock++) {
            for (int what = 0; what <= 8; what++) {
                state.append(what == 0 ? "| " : "").append(x.clock(clock, what)).append(' ');
            }
            int booked = x.book(clock, WallClocks.VOID);
            x.book(clock, booked);
            state.append(booked).append(' ').append(x.off(clock, 12)).append(' ');
        }
        for (int hook = 0; hook < x.told(2); hook++) {
            state.append("/ ").append(x.hook(hook, 0)).append(' ').append(x.hook(hook, 1)).append(' ');
        }
        return state.append(x.count(0)).append(' ').append(x.count(1)).append(' ').append(x.fault()).toString();
    }

    /** A new object with this wall; a text with a fault is a fault of the test. */
    static WallClocks walled(String text) {
        WallClocks clocks = new WallClocks();
        int many = read(clocks, text);
        if (many < 0) {
            throw new IllegalStateException("fault " + (many + 10) + " at " + clocks.fault() + " in " + text);
        }
        return clocks;
    }
}
