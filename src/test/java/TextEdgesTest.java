import java.nio.charset.StandardCharsets;
import java.util.Arrays;
import java.util.List;

/** The edges that the document names of the tape, the text of a wall and its faults (terms 1, promises 2 to 4), a sentence each. */
public final class TextEdgesTest {
    private static final int NONE = WallClocks.NONE;
    private static final int MIN = Integer.MIN_VALUE;
    private static final int MAX = Integer.MAX_VALUE;
    /** Two boards and three clocks, told ahead; places 7 and 8 of board 0 and 7 of board 1 are taken. */
    private static final String AHEAD = "board 5;board 6;clock 0 7 100 1 0 0;clock 0 8 100 1 0 0;clock 1 7 100 1 0 0;";

    private TextEdgesTest() {
    }

    public static void main(String[] args) {
        tapeIsFull();
        bytesComeHighestFirst();
        wallOfNoBytes();
        wallOfSixHundredBytes();
        firstBytesAlone();
        refusedLengths();
        newWallBeginsAnew();
        wallsOneBehindAnother();
        faultLeavesAll();
        placesOfFaults();
        words();
        textsThatEndTooEarly();
        numbersMissingAndTooMany();
        limitsOfNumbers();
        numbersCount();
        toldAhead();
        digitsAsManyAsStandThere();
        blanks();
        everyByte();
        clausesTooMany();
        boardsTooMany();
        clocksTooMany();
        hooksTooMany();
        takenPlaces();
        clockThatHearsItself();
        firstFromTheLeft();
        leastOfOnePlace();
        lastsThatCount();
        withoutClauses();
        Check.end();
    }

    private static String blanks(int many) {
        return " ".repeat(many);
    }

    private static void feedBlanks(WallClocks x, int feeds) {
        for (int k = 0; k < feeds; k++) {
            Check.feed(x, blanks(20));
        }
    }

    // ---- promise 2

    /** "NONE, doing nothing, if there would be more than 600". */
    private static void tapeIsFull() {
        WallClocks x = new WallClocks();
        feedBlanks(x, 28);
        Check.due("the twenty-ninth feed", 580, () -> x.feed(0x20202020, 0x20202020, 0x20202020, 0x20202020, 0x20202020));
        Check.due("the thirtieth feed fills the tape", 600, () -> x.feed(0x20202020, 0x20202020, 0x20202020, 0x20202020, 0x20202020));
        Check.due("the thirty-first feed", NONE, () -> x.feed(1, 2, 3, 4, 5));
        Check.due("the bytes behind that", 600, () -> x.count(1));
        Check.due("the thirty-second feed", NONE, () -> x.feed(MIN, MAX, -1, 0, 1));
        Check.due("a refused feed put nothing on the tape", 0, () -> x.wall(600));
        Check.due("the tape is free again", 20, () -> x.feed(0, 0, 0, 0, 0));
    }

    /** "of each number the highest first". */
    private static void bytesComeHighestFirst() {
        String text = "right 123;damp 7 50;";
        int[] words = {0x72696768, 0x74203132, 0x333b6461, 0x6d702037, 0x2035303b};
        WallClocks x = new WallClocks();
        Check.due("the words of \"" + text + "\"", 20, () -> x.feed(words[0], words[1], words[2], words[3], words[4]));
        Check.due("are that wall", 0, () -> x.wall(20));
        Check.due("with its E", 123, () -> x.told(4));
        int blank = 0x20202020;
        for (int word = 0; word < 5; word++) {
            for (int at = 0; at < 4; at++) {
                int[] fed = {blank, blank, blank, blank, blank};
                fed[word] = blank ^ 0xa0 << 24 - 8 * at;
                int place = word * 4 + at;
                WallClocks y = new WallClocks();
                y.feed(fed[0], fed[1], fed[2], fed[3], fed[4]);
                Check.due("byte 128 at " + place, "-9 " + place, () -> y.wall(20) + " " + y.fault());
            }
        }
    }

    // ---- promise 3

    /** "n is not 0 to the TAPE's bytes": 0 is allowed. */
    private static void wallOfNoBytes() {
        WallClocks x = new WallClocks();
        Check.due("no bytes of an empty tape", 0, () -> x.wall(0));
        Check.read(x, AHEAD);
        Check.feed(x, "nonsense");
        Check.due("no bytes of a tape", 0, () -> x.wall(0));
        Check.due("are a wall without boards", "0 0 0", () -> x.told(0) + " " + x.told(1) + " " + x.told(2));
        Check.due("the tape is empty then", 0, () -> x.count(1));
        Check.due("without a fault", NONE, x::fault);
    }

    /** "a text of up to 600 bytes". */
    private static void wallOfSixHundredBytes() {
        String clock = "board 5;clock 0 0 100 1 0 0;";
        String text = blanks(600 - clock.length()) + clock;
        Check.due("the length", 600, text::length);
        Check.whole(text, 1);
        Check.fault(text.substring(0, 599) + " ", 1, 600);
        Check.fault(blanks(599) + "x", 1, 599);
        Check.fault(blanks(595) + "board", 1, 600);
        Check.fault(blanks(594) + "board9", 1, 600);
        Check.whole(blanks(593) + "board9;", 0);
        Check.whole(blanks(600), 0);
    }

    /** "The first n bytes of the TAPE (empty then)". */
    private static void firstBytesAlone() {
        WallClocks x = new WallClocks();
        Check.feed(x, "right 12;right 13;xx");
        Check.due("eighteen of twenty", 0, () -> x.wall(18));
        Check.due("the last of them", 13, () -> x.told(4));
        Check.due("the rest is gone", 0, () -> x.count(1));
        Check.feed(x, "right 14;right 15;xx");
        Check.due("nine of twenty", 0, () -> x.wall(9));
        Check.due("the first of them", 14, () -> x.told(4));
        Check.feed(x, "right 14;right 15;xx");
        Check.due("eight of twenty", -9, () -> x.wall(8));
        Check.due("the ';' is not read", 8, x::fault);
        Check.due("nor left", 0, () -> x.count(1));
    }

    /** "n is not 0 to the TAPE's bytes (it stays)". */
    private static void refusedLengths() {
        WallClocks x = new WallClocks();
        for (int n : new int[] {MIN, -1, 1, 600, MAX}) {
            Check.illegal("wall " + n + " of an empty tape", () -> x.wall(n));
        }
        Check.feed(x, "right 77;");
        for (int n : new int[] {MIN, -600, -1, 21, 40, 600, 601, MAX}) {
            Check.illegal("wall " + n + " of twenty bytes", () -> x.wall(n));
            Check.due("the tape behind wall " + n, 20, () -> x.count(1));
        }
        Check.due("the tape is as it was", "0 77", () -> x.wall(9) + " " + x.told(4));
        feedBlanks(x, 30);
        Check.illegal("wall 601 of a full tape", () -> x.wall(601));
        Check.due("wall 600 of a full tape", 0, () -> x.wall(600));
    }

    private static WallClocks wornWall() {
        WallClocks x = Check.walled("board 5;board 6;clock 0 7 103 2 0 5;clock 0 8 100 1 3 60;hook 1 3;hears 0 1 9;damp 2 3;key 1 9;sound 1;right 44;");
        x.days(11);
        x.hang(1, 0);
        x.book(0, 17);
        x.image();
        x.image();
        return x;
    }

    /** "(DAY 0; no BOOK, IMAGES)". */
    private static void newWallBeginsAnew() {
        WallClocks x = wornWall();
        Check.due("another wall", 2, () -> Check.read(x, "board 9;clock 0 0 100 1 0 0;clock 0 1 105 1 0 10;"));
        Check.due("day", 0, () -> x.told(3));
        Check.due("the book of each", WallClocks.VOID + " " + WallClocks.VOID, () -> x.book(0, 1) + " " + x.book(1, 1));
        Check.due("images", 0, () -> x.count(0));
        Check.due("nothing to restore", -1, x::restore);
        Check.due("nothing to undo", 0, () -> x.undo(400));
        Check.due("off", "0 0", () -> x.clock(0, 6) + " " + x.clock(1, 6));
        Check.due("phases as told", "0 10", () -> x.clock(0, 5) + " " + x.clock(1, 5));
        Check.due("no hooks, boards and sound ones of the wall before", "1 0 0", () -> x.told(0) + " " + x.told(2) + " " + x.told(5));
        Check.due("the same text again begins anew too", "2 0 0", () -> {
            x.days(3);
            return Check.read(x, "board 9;clock 0 0 100 1 0 0;clock 0 1 105 1 0 10;") + " " + x.told(3) + " " + x.clock(1, 6);
        });
    }

    /** Whatever walls and faults went ahead, a wall is what its own text tells. */
    private static void wallsOneBehindAnother() {
        String rich = "board 1;board 2;board 3;board 4;clock 0 7 103 2 1 5;clock 0 8 100 1 3 60;clock 3 1 150 9 4 9;hook 1 3;hook 2 4;hears 2 0 9;hears 0 1 9;"
                + "damp 0 50;damp 2 3;key 0 30;key 1 9;key 2 12;sound 1;sound 2;right 44;";
        String poor = "board 1;clock 0 1 101 2 0 5;clock 0 2 102 2 0 9;clock 0 3 103 2 0 9;";
        WallClocks fresh = Check.walled(poor);
        String due = Check.stateOf(fresh);
        fresh.days(10);
        String later = Check.stateOf(fresh);
        String[][] ahead = {{rich}, {rich, rich}, {rich, poor}, {rich, rich, rich}, {rich, ""}, {rich, rich + "x"}, {rich, "", rich + "x"}, {rich + "x"}, {rich + "x", rich + "x"}};
        for (String[] texts : ahead) {
            WallClocks x = new WallClocks();
            for (String text : texts) {
                Check.read(x, text);
                x.days(9);
            }
            Check.due("told behind " + texts.length + " others", 3, () -> Check.read(x, poor));
            Check.due("as if it were the first", due, () -> Check.stateOf(x));
            x.days(10);
            Check.due("ten days on too", later, () -> Check.stateOf(x));
        }
    }

    /** "the FAULT less 10 (all stays)". */
    private static void faultLeavesAll() {
        String[] faulty = {"x", "board 7;clock 0 0 150 9 0 7;hook 0 1;right 3;sound 0;damp 3 4;key 0 1;board 0;", "right 5;" + "board 1;".repeat(5)};
        int[] answers = {-9, -8, -7};
        for (int i = 0; i < faulty.length; i++) {
            String text = faulty[i];
            WallClocks x = wornWall();
            String ahead = Check.stateOf(x).replaceAll("\\S+$", "");
            String later = offsOf(x);
            Check.due("a fault of its kind", answers[i], () -> Check.read(x, text));
            Check.due("all is as it was, but for the fault's place", ahead, () -> Check.stateOf(x).replaceAll("\\S+$", ""));
            Check.due("and goes on as it would have", later, () -> offsOf(x));
            Check.due("images are as they were", "1 0 11", () -> x.restore() + " " + x.restore() + " " + x.told(3));
            Check.due("days undone are as they were", "11 0", () -> x.undo(400) + " " + x.clock(0, 6));
        }
    }

    private static String offsOf(WallClocks x) {
        return x.off(0, 30) + " " + x.off(1, 30) + " " + x.hearing(0, 1) + " " + x.hold(3) + " " + x.hung(1, 3, 0);
    }

    // ---- promise 4

    /** "The place of the FAULT of the latest wall(); NONE without". */
    private static void placesOfFaults() {
        WallClocks x = new WallClocks();
        Check.due("ahead of all walls", NONE, x::fault);
        Check.due("a fault at 0", "-9 0", () -> Check.read(x, ";") + " " + x.fault());
        Check.due("asked again", 0, x::fault);
        Check.due("a later one", "-8 6", () -> Check.read(x, "board 0;") + " " + x.fault());
        Check.illegal("a refused wall", () -> x.wall(1));
        Check.due("is none that has a fault", 6, x::fault);
        Check.due("a fault at the length", "-9 600", () -> Check.read(x, blanks(594) + "board5") + " " + x.fault());
        Check.due("none in the latest", "0 -1", () -> Check.read(x, " ") + " " + x.fault());
        x.days(5);
        x.undo(5);
        Check.due("days leave it", NONE, x::fault);
    }

    // ---- terms 1: words

    private static final String[] CLAUSES = {
        "board 5;", "clock 0 2 100 1 0 10;", "hook 0 3;", "hears 0 1 5;", "damp 3 4;", "key 0 3;", "sound 1;", "right 7;"};

    private static int wordOf(String clause) {
        return clause.indexOf(' ');
    }

    /** "WORDS: small letters, as many as stand there": a word that is none is a fault at its first byte. */
    private static void words() {
        for (String clause : CLAUSES) {
            int end = wordOf(clause);
            String word = clause.substring(0, end);
            String rest = clause.substring(end);
            int at = AHEAD.length();
            Check.whole(AHEAD + clause, clocksWith(clause));
            Check.fault(AHEAD + word.substring(0, end - 1) + rest, 1, at);
            Check.fault(AHEAD + word.substring(1) + rest, 1, at);
            Check.fault(AHEAD + word + "s" + rest, 1, at);
            Check.fault(AHEAD + "s" + word + rest, 1, at);
            Check.fault(AHEAD + word + word + rest, 1, at);
            Check.fault(AHEAD + word.toUpperCase() + rest, 1, at);
            Check.fault(AHEAD + word.substring(0, 1).toUpperCase() + word.substring(1) + rest, 1, at);
            Check.fault(AHEAD + word.substring(0, 2) + " " + word.substring(2) + rest, 1, at);
            for (int i = 0; i < end; i++) {
                Check.fault(AHEAD + word.substring(0, i) + "z" + word.substring(i + 1) + rest, 1, at);
            }
            Check.fault(AHEAD + "  " + word + "q" + rest, 1, at + 2);
        }
        Check.fault("a", 1, 0);
        Check.fault("z", 1, 0);
        Check.fault("board 5;" + "b".repeat(500), 1, 8);
    }

    /** "at the length, if the text ends too early". */
    private static void textsThatEndTooEarly() {
        for (String clause : CLAUSES) {
            for (int cut = 1; cut < clause.length(); cut++) {
                String text = AHEAD + clause.substring(0, cut);
                Check.fault(text, 1, cut < wordOf(clause) ? AHEAD.length() : text.length());
                if (cut >= wordOf(clause)) {
                    Check.fault(text + "   ", 1, text.length() + 3);
                }
            }
        }
    }

    /** A number that is missing, one too many, or a word or ';' in its place, can't stand there. */
    private static void numbersMissingAndTooMany() {
        for (String clause : CLAUSES) {
            String shorter = clause.substring(0, clause.lastIndexOf(' '));
            Check.fault(AHEAD + shorter + ";", 1, AHEAD.length() + shorter.length());
            Check.fault(AHEAD + shorter + " ;", 1, AHEAD.length() + shorter.length() + 1);
            Check.fault(AHEAD + shorter + " x;", 1, AHEAD.length() + shorter.length() + 1);
            Check.fault(AHEAD + shorter + " -1;", 1, AHEAD.length() + shorter.length() + 1);
            Check.fault(AHEAD + shorter + " +1;", 1, AHEAD.length() + shorter.length() + 1);
            String whole = clause.substring(0, clause.length() - 1);
            Check.fault(AHEAD + whole + " 0;", 1, AHEAD.length() + whole.length() + 1);
            Check.fault(AHEAD + whole + "x;", 1, AHEAD.length() + whole.length());
            Check.fault(AHEAD + whole + " right 3;", 1, AHEAD.length() + whole.length() + 1);
            Check.fault(AHEAD + clause + ";", 1, AHEAD.length() + clause.length());
            Check.fault(AHEAD + clause + "0;", 1, AHEAD.length() + clause.length());
        }
    }

    // ---- terms 1: numbers

    /** Of each number of each clause: where it stands (%), the least and the greatest, and what can't stand there for another reason. */
    private static final Object[][] LIMITS = {
        {"board %;", 1, 9}, {"clock % 5 100 1 0 0;", 0, 1}, {"clock 0 % 100 1 0 0;", 0, 19, 7, 8}, {"clock 0 5 % 1 0 0;", 0, 200},
        {"clock 0 5 100 % 0 0;", 1, 20}, {"clock 0 5 100 1 % 0;", 0, 4}, {"clock 0 5 100 1 0 %;", 0, 999}, {"hook % 5;", 0, 1},
        {"hook 0 %;", 0, 19, 7, 8}, {"hears % 1 5;", 0, 2, 1}, {"hears 1 % 5;", 0, 2, 1}, {"hears 0 1 %;", 0, 99}, {"damp % 5;", 0, 399},
        {"damp 5 %;", 0, 50}, {"key % 5;", 0, 2}, {"key 0 %;", 1, 30}, {"sound %;", 0, 2}, {"right %;", 0, 499}};

    /** "2 a number that is none such": every number from the least to the greatest is one, those on either side are none. */
    private static void limitsOfNumbers() {
        for (Object[] row : LIMITS) {
            String clause = (String) row[0];
            int least = (Integer) row[1];
            int greatest = (Integer) row[2];
            List<Object> others = Arrays.asList(row).subList(3, row.length);
            for (int number = least; number <= greatest; number++) {
                if (!others.contains(number)) {
                    Check.whole(AHEAD + clause.replace("%", String.valueOf(number)), clocksWith(clause));
                }
            }
            refused(clause, String.valueOf(greatest + 1));
            if (least > 0) {
                refused(clause, String.valueOf(least - 1));
            }
        }
    }

    private static int clocksWith(String clause) {
        return clause.startsWith("clock") ? 4 : 3;
    }

    private static void refused(String clause, String number) {
        Check.fault(AHEAD + clause.replace("%", number), 2, AHEAD.length() + clause.indexOf('%'));
    }

    /** The least and the greatest of each number are what is told then. */
    private static void numbersCount() {
        WallClocks x = Check.walled("board 1;board 9;clock 0 0 0 1 0 0;clock 1 19 200 20 4 999;hook 1 0;hook 0 19;right 499;");
        Check.due("the first clock", "0 0 -100 1 0 0 0 1 0", () -> clockOf(x, 0));
        Check.due("the last clock", "1 19 100 20 4 999 0 1 0", () -> clockOf(x, 1));
        Check.due("hooks", "1 0 0 19", () -> x.hook(0, 0) + " " + x.hook(0, 1) + " " + x.hook(1, 0) + " " + x.hook(1, 1));
        Check.due("E", 499, () -> x.told(4));
        Check.due("E 0", 0, () -> Check.walled("right 0;").told(4));
        WallClocks kinds = Check.walled("board 5;clock 0 0 100 1 0 0;clock 0 1 100 1 1 0;clock 0 2 100 1 2 0;clock 0 3 100 1 3 0;clock 0 4 100 1 4 0;");
        for (int kind = 0; kind <= 4; kind++) {
            int of = kind;
            Check.due("kind " + kind, kind, () -> kinds.clock(of, 4));
        }
        for (int thick : new int[] {1, 9}) {
            Check.due("thick " + thick, 10 - thick, () -> Check.walled("board " + thick + ";clock 0 0 100 2 0 0;clock 0 1 100 2 0 0;").hearing(0, 1));
        }
        for (int more : new int[] {0, 99}) {
            Check.due("hears " + more, more, () -> Check.walled("board 9;board 9;clock 0 0 100 1 0 0;clock 1 0 100 1 0 0;hears 0 1 " + more + ";").hearing(0, 1));
        }
        for (int slower : new int[] {0, 50}) {
            Check.due("damp " + slower, -slower, () -> Check.walled("board 9;clock 0 0 100 1 0 0;damp 0 " + slower + ";").off(0, 1));
        }
        Check.due("damp on the last day", "0 -50", () -> {
            WallClocks damp = Check.walled("board 9;clock 0 0 100 1 0 0;damp 399 50;");
            damp.days(399);
            return damp.clock(0, 6) + " " + damp.off(0, 1);
        });
        for (int clock = 0; clock < 3; clock++) {
            int bit = 1 << clock;
            String sound = "sound " + clock + ";";
            Check.due(sound, bit, () -> Check.walled(AHEAD + sound).told(5));
        }
    }

    private static String clockOf(WallClocks x, int clock) {
        StringBuilder all = new StringBuilder();
        for (int what = 0; what <= 8; what++) {
            all.append(what == 0 ? "" : " ").append(x.clock(clock, what));
        }
        return all.toString();
    }

    /** "B, I, J, K: told ahead": what is told later is none such yet; numbered from 0 on. */
    private static void toldAhead() {
        Check.fault("clock 0 0 100 1 0 0;board 5;", 2, 6);
        Check.fault("hook 0 0;board 5;", 2, 5);
        Check.fault("board 5;clock 1 0 100 1 0 0;board 5;", 2, 14);
        Check.fault("board 5;hook 1 0;board 5;", 2, 13);
        String one = "board 5;clock 0 0 100 1 0 0;";
        String next = "clock 0 1 100 1 0 0;";
        Check.fault("hears 0 1 1;" + one + next, 2, 6);
        Check.fault(one + "hears 1 0 1;" + next, 2, one.length() + 6);
        Check.fault(one + "hears 0 1 1;" + next, 2, one.length() + 8);
        Check.fault("key 0 5;" + one, 2, 4);
        Check.fault(one + "key 1 5;" + next, 2, one.length() + 4);
        Check.fault("sound 0;" + one, 2, 6);
        Check.fault(one + "sound 1;" + next, 2, one.length() + 6);
        Check.whole(one + next + "hears 1 0 1;key 1 5;sound 1;board 6;clock 1 0 100 1 0 0;key 2 1;hook 1 1;", 3);
        Check.fault("board 1;board 1;board 1;board 1;clock 4 0 100 1 0 0;", 2, 38);
        Check.whole("board 1;board 1;board 1;board 1;clock 3 0 100 1 0 0;", 1);
    }

    /** "Numbers: digits, as many as stand there". */
    private static void digitsAsManyAsStandThere() {
        for (Object[] row : LIMITS) {
            String clause = (String) row[0];
            String greatest = String.valueOf(row[2]);
            Check.whole(AHEAD + clause.replace("%", "0" + greatest), clocksWith(clause));
            Check.whole(AHEAD + clause.replace("%", "0".repeat(300) + greatest), clocksWith(clause));
            refused(clause, "1" + "0".repeat(9));
            refused(clause, "10000" + greatest);
            refused(clause, "4294967296");
            refused(clause, "4294967297");
            refused(clause, "18446744073709551616");
            refused(clause, "18446744073709551617");
            refused(clause, "2147483648");
            refused(clause, "9".repeat(300));
            refused(clause, "0".repeat(200) + "1" + "0".repeat(200));
        }
        Check.fault("right 10000;", 2, 6);
        Check.fault("right 100000000000000000001;", 2, 6);
        Check.fault("board 5board 5;", 1, 7);
        Check.fault("damp 1 1 1;", 1, 9);
        Check.fault("damp 11;", 1, 7);
        Check.whole("damp 1 1;", 0);
    }

    /** "blanks (32) may stand ahead of all these, and at the end". */
    private static void blanks() {
        for (String clause : CLAUSES) {
            String spread = clause.replace(" ", "   ").replace(";", "  ;");
            Check.whole(AHEAD + "  " + spread + "  ", clocksWith(clause));
            Check.whole(AHEAD + clause.replaceFirst(" ", ""), clocksWith(clause));
            Check.whole(" " + AHEAD + clause + blanks(600 - 1 - AHEAD.length() - clause.length()), clocksWith(clause));
        }
        Check.due("blanks change nothing", "1 19 -1", () -> {
            WallClocks x = Check.walled("  board   9  ;  clock  0   19  99  20  0  999  ;  ");
            return x.told(1) + " " + x.clock(0, 1) + " " + x.clock(0, 2);
        });
        Check.whole(" ", 0);
        Check.whole("", 0);
    }

    /** Each of the 256 bytes, where a word, a number or ';' may stand. */
    private static void everyByte() {
        for (int b = 0; b <= 255; b++) {
            char sign = (char) b;
            boolean blank = b == 32;
            boolean digit = b >= '0' && b <= '9';
            boolean letter = b >= 'a' && b <= 'z';
            wholeOrFault("" + sign, blank, 1, 0);
            wholeOrFault("board 5;" + sign, blank, 1, 8);
            wholeOrFault("board 5" + sign + ";", blank, digit ? 2 : 1, digit ? 6 : b == ';' ? 8 : 7);
            wholeOrFault("board " + sign + ";", digit && b != '0', digit ? 2 : 1, blank ? 7 : 6);
            wholeOrFault("board" + sign + "5;", blank || b == '0', digit ? 2 : 1, letter ? 0 : 5);
            wholeOrFault("board 5" + sign, b == ';', digit ? 2 : 1, blank ? 8 : digit ? 6 : 7);
        }
    }

    private static void wholeOrFault(String text, boolean whole, int kind, int place) {
        if (whole) {
            Check.whole(text, 0);
        } else {
            Check.fault(text, kind, place);
        }
        Check.due("a byte to a sign", text.length(), () -> text.getBytes(StandardCharsets.ISO_8859_1).length);
    }

    // ---- terms 1: too many

    /** "at most 60". */
    private static void clausesTooMany() {
        String clause = "right 1;";
        Check.whole(clause.repeat(59), 0);
        Check.whole(clause.repeat(60), 0);
        Check.whole(clause.repeat(60) + blanks(120), 0);
        Check.fault(clause.repeat(61), 3, 480);
        Check.fault(clause.repeat(70), 3, 480);
        Check.fault(clause.repeat(60) + "   right", 3, 483);
        Check.fault("board 1;".repeat(4) + clause.repeat(56) + "board 1;", 3, 480);
        Check.fault("board 1;" + clause.repeat(59) + "clock 0 0 100 1 0 0;", 3, 480);
        Check.due("the sixtieth counts", 9, () -> Check.walled(clause.repeat(59) + "right 9;").told(4));
        for (String late : CLAUSES) {
            int fill = 60 - 5;
            Check.fault(AHEAD + clause.repeat(fill) + late, 3, AHEAD.length() + 8 * fill);
        }
    }

    /** "BOARDS, numbered from 0 on, 4 at most". */
    private static void boardsTooMany() {
        String four = "board 1;board 2;board 3;board 4;";
        Check.whole(four, 0);
        Check.due("four", 4, () -> Check.walled(four).told(0));
        Check.fault(four + "board 5;", 3, 32);
        Check.fault(four + " board", 3, 33);
        Check.fault(four + "right 5;board 99;", 3, 40);
        Check.whole(four + "clock 3 0 100 1 0 0;hook 3 1;", 1);
    }

    private static String clocks(int many) {
        StringBuilder text = new StringBuilder("board 5;");
        for (int i = 0; i < many; i++) {
            text.append("clock 0 ").append(i).append(" 100 1 0 ").append(i).append(';');
        }
        return text.toString();
    }

    private static String hooks(int many) {
        StringBuilder text = new StringBuilder();
        for (int i = 0; i < many; i++) {
            text.append("hook 0 ").append(10 + i).append(';');
        }
        return text.toString();
    }

    /** "CLOCKS likewise, 8". */
    private static void clocksTooMany() {
        Check.whole(clocks(7), 7);
        Check.whole(clocks(8), 8);
        Check.fault(clocks(9), 3, clocks(8).length());
        Check.fault(clocks(8) + "clock", 3, clocks(8).length());
        Check.fault(clocks(8) + "  clock 9 9 999 99 9 9999;", 3, clocks(8).length() + 2);
        WallClocks x = Check.walled(clocks(8) + "sound 7;key 7 30;hears 7 6 3;hears 6 7 4;");
        Check.due("the eighth", "7 7 128", () -> x.clock(7, 1) + " " + x.clock(7, 5) + " " + x.told(5));
        Check.noSuch("a ninth", () -> x.clock(8, 0));
        Check.due("all are right", 255, x::right);
    }

    /** "free HOOKS likewise, 6". */
    private static void hooksTooMany() {
        Check.whole(clocks(8) + hooks(6), 8);
        Check.whole("board 5;" + hooks(5), 0);
        Check.fault("board 5;" + hooks(7), 3, 8 + hooks(6).length());
        Check.fault("board 5;" + hooks(6) + "hook", 3, 8 + hooks(6).length());
        WallClocks x = Check.walled("board 5;" + hooks(6));
        Check.due("the sixth", "0 15", () -> x.hook(5, 0) + " " + x.hook(5, 1));
        Check.noSuch("a seventh", () -> x.hook(6, 0));
    }

    // ---- terms 1: places, pairs

    /** "No two CLOCKS or HOOKS are at one place of a BOARD"; "a place that is taken: at X". */
    private static void takenPlaces() {
        String[] first = {"clock 0 4 100 1 0 0;", "hook 0 4;"};
        String board = "board 5;board 5;";
        for (String one : first) {
            for (String other : first) {
                int x = board.length() + one.length() + other.indexOf('4');
                int clocks = (one + other).split("clock", -1).length - 1;
                Check.fault(board + one + other, 2, x);
                Check.fault(board + one + other.replace("4", "0004"), 2, x);
                Check.whole(board + one + other.replace("0 4", "1 4"), clocks);
                Check.whole(board + one + other.replace("0 4", "0 3"), clocks);
                Check.whole(board + one + other.replace("0 4", "0 5"), clocks);
            }
        }
        Check.fault("board 5;clock 0 0 100 1 0 0;clock 0 19 100 1 0 0;hook 0 19;", 2, 56);
        Check.fault("board 5;board 5;clock 1 0 100 1 0 0;clock 1 0 100 1 0 0;", 2, 44);
        Check.fault(clocks(7) + "clock 0 6 100 1 0 0;", 2, clocks(7).length() + 8);
        Check.fault("board 5;" + hooks(5) + "hook 0 14;", 2, 8 + hooks(5).length() + 7);
    }

    /** "I not J", "J like I: at J". */
    private static void clockThatHearsItself() {
        for (int i = 0; i < 3; i++) {
            Check.fault(AHEAD + "hears " + i + " " + i + " 5;", 2, AHEAD.length() + 8);
            Check.fault(AHEAD + "hears " + i + " 00" + i + " 5;", 2, AHEAD.length() + 8);
            Check.fault(AHEAD + "hears " + i + "   " + i, 2, AHEAD.length() + 10);
        }
        Check.fault(AHEAD + "hears 3 3 5;", 2, AHEAD.length() + 6);
        Check.due("on whatever boards, one way", "99 0", () -> {
            WallClocks x = Check.walled(AHEAD + "hears 0 2 99;");
            return x.hearing(0, 2) + " " + x.hearing(2, 0);
        });
    }

    // ---- terms 1: which fault

    /** "the first from the left". */
    private static void firstFromTheLeft() {
        Check.fault("board 0;lift;", 2, 6);
        Check.fault("lift;board 0;", 1, 0);
        Check.fault("board 10x;", 2, 6);
        Check.fault("board x10;", 1, 6);
        Check.fault("board 0", 2, 6);
        Check.fault("board 5;clock 1 20 201 21 5 1000;", 2, 14);
        Check.fault("board 5;clock 0 20 201 21 5 1000;", 2, 16);
        Check.fault("board 5;clock 0 19 201 21 5 1000;", 2, 19);
        Check.fault("board 5;clock 0 19 200 21 5 1000;", 2, 23);
        Check.fault("board 5;clock 0 19 200 20 5 1000;", 2, 26);
        Check.fault("board 5;clock 0 19 200 20 4 1000;", 2, 28);
        Check.fault("board 5;clock 0 19 200 20 4 999", 1, 31);
        Check.fault(AHEAD + "clock 0 7 201 1 0 0;", 2, AHEAD.length() + 8);
        Check.fault(AHEAD + "clock 2 7 201 1 0 0;", 2, AHEAD.length() + 6);
        Check.fault(AHEAD + "clock 0 7 x", 2, AHEAD.length() + 8);
        Check.fault(AHEAD + "clock 2 x", 2, AHEAD.length() + 6);
        Check.fault(AHEAD + "hears 3 x", 2, AHEAD.length() + 6);
        Check.fault(AHEAD + "hears 0 0 100;", 2, AHEAD.length() + 8);
        Check.fault(AHEAD + "hears 0 3 100;", 2, AHEAD.length() + 8);
        Check.fault(AHEAD + "hears 0 1 100 x", 2, AHEAD.length() + 10);
        Check.fault("damp 400 51;", 2, 5);
        Check.fault("damp 399 51 x", 2, 9);
        Check.fault(AHEAD + "key 3 31;", 2, AHEAD.length() + 4);
        Check.fault("board 0;" + "board 1;".repeat(5), 2, 6);
        Check.fault("board 1;".repeat(5) + "board 0;", 3, 32);
        Check.fault("board 1;".repeat(4) + "x;board 1;", 1, 32);
    }

    /** "of one the least". */
    private static void leastOfOnePlace() {
        Check.fault("right 1;".repeat(60) + "rights 1;", 1, 480);
        Check.fault("right 1;".repeat(60) + "1;", 1, 480);
        Check.fault("right 1;".repeat(60) + ";", 1, 480);
        Check.fault("right 1;".repeat(60) + "Right 1;", 1, 480);
        Check.fault("right 1;".repeat(60) + " \u00ff", 1, 481);
        Check.fault("board 1;".repeat(4) + "boards 1;", 1, 32);
        Check.fault(clocks(8) + "clocks", 1, clocks(8).length());
        Check.fault("board 5;" + hooks(6) + "hooks", 1, 8 + hooks(6).length());
    }

    // ---- terms 1: the last counts, and what is without

    /** "the last counts" of hears, damp, right, "also of keys". */
    private static void lastsThatCount() {
        WallClocks x = Check.walled(AHEAD + "hears 0 2 99;hears 0 2 0;hears 2 0 3;hears 2 0 99;");
        Check.due("hears, down and up", "0 99", () -> x.hearing(0, 2) + " " + x.hearing(2, 0));
        String clock = "board 9;clock 0 0 100 1 0 0;";
        Check.due("damp, down", 0, () -> Check.walled(clock + "damp 0 50;damp 0 0;").off(0, 1));
        Check.due("damp, up", -50, () -> Check.walled(clock + "damp 0 0;damp 0 50;").off(0, 1));
        Check.due("damp of two days", "-7 -15", () -> {
            WallClocks y = Check.walled(clock + "damp 0 7;damp 1 8;");
            return y.off(0, 1) + " " + y.off(0, 2);
        });
        Check.due("right, down", 0, () -> Check.walled("right 499;right 0;").told(4));
        Check.due("right, up", 499, () -> Check.walled("right 0;right 499;").told(4));
        Check.due("keys, down", 1, () -> runsOnDay(clock + "key 0 30;key 0 8;", 8));
        Check.due("keys, up", 0, () -> runsOnDay(clock + "key 0 8;key 0 30;", 8));
        Check.due("keys of two clocks", "0 1", () -> {
            WallClocks y = Check.walled(clock + "clock 0 1 100 1 0 0;key 0 9;key 1 8;");
            y.days(8);
            return y.clock(0, 7) + " " + y.clock(1, 7);
        });
        Check.due("sound ones add", 5, () -> Check.walled(AHEAD + "sound 2;sound 0;sound 2;").told(5));
    }

    private static int runsOnDay(String text, int day) {
        WallClocks x = Check.walled(text);
        x.days(day);
        return x.clock(0, 7);
    }

    /** "50 without", "each 8 without". */
    private static void withoutClauses() {
        WallClocks x = Check.walled("board 9;clock 0 0 100 1 0 0;clock 0 1 100 1 0 500;");
        Check.due("E", 50, () -> x.told(4));
        Check.due("sound ones", 0, () -> x.told(5));
        Check.due("hears", 0, () -> x.hearing(0, 1));
        x.days(400);
        Check.due("no damp day", 0, () -> x.clock(0, 6));
        for (int day = 399; day >= 0; day--) {
            x.undo(1);
            Check.due("it runs on day " + day, 1, () -> x.clock(0, 7));
        }
    }
}
