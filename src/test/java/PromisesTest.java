/** Each promise of the document by answers that were found by hand: ordinary calls, the edges, wrong arguments. */
public final class PromisesTest {
    private static final int NONE = -1;
    private static final int VOID = -2147483648;

    /** Two that hear one another by 25. */
    private static final String PAIR = "board 5;clock 0 0 100 10 0 100;clock 0 1 110 10 0 140;right 30;hook 0 5;sound 0;";
    /** A leading one that holds a quick one at 12 parts; alone the quick one would go 10 a day. */
    private static final String HELD = "board 1;clock 0 0 100 20 1 0;clock 0 1 110 1 0 0;right 30;sound 0;";
    /** The quick one hangs on a board of its own; hook 0 is there too, hooks 1 and 2 are beside the leading one. */
    private static final String FAR = "board 1;board 9;clock 0 0 100 20 1 0;clock 1 0 110 1 0 0;hook 1 5;hook 0 1;hook 0 2;right 20;";
    /** Two deaf ones on one board; nothing pulls them. */
    private static final String DEAF = "board 5;clock 0 0 100 1 2 0;clock 0 1 100 1 2 0;";

    private PromisesTest() {
    }

    public static void main(String[] args) {
        newObject();
        feeding();
        walls();
        faults();
        limits();
        tellings();
        clocksToday();
        hearings();
        aparts();
        pulls();
        daysGone();
        daysUndone();
        steps();
        rights();
        groupings();
        offs();
        hangs();
        standings();
        pushes();
        beginningsTried();
        aways();
        holds();
        hungs();
        ownRates();
        looks();
        books();
        infections();
        frauds();
        staying();
        drawnDeltas();
        coming();
        leaders();
        betters();
        wanteds();
        sales();
        honestOnes();
        boundSets();
        winterOffs();
        manyWinters();
        images();
        counts();
        Check.end();
    }

    /** Promise 1. */
    private static void newObject() {
        WallClocks x = new WallClocks();
        for (int what = 0; what <= 5; what++) {
            int asked = what;
            Check.due("new: told " + what, what == 4 ? 50 : 0, () -> x.told(asked));
        }
        Check.due("new: fault", NONE, x::fault);
        Check.due("new: right", 0, x::right);
        Check.due("new: groups", 0, x::groups);
        Check.due("new: bound", 0, x::bound);
        Check.due("new: standing", true, () -> x.standing(1));
        Check.due("new: pushed", 0, () -> x.pushed(1, 1));
        Check.due("new: hold", NONE, () -> x.hold(1));
        Check.due("new: leader", NONE, () -> x.leader(1));
        Check.due("new: better", NONE, () -> x.better(1, 1));
        Check.due("new: infected", 0, () -> x.infected(1));
        Check.due("new: honest", 0, () -> x.honest(1));
        Check.due("new: count images", 0, () -> x.count(0));
        Check.due("new: count bytes", 0, () -> x.count(1));
        Check.noSuch("new: clock", () -> x.clock(0, 0));
        Check.noSuch("new: hook", () -> x.hook(0, 0));
        Check.due("NONE", -1, () -> WallClocks.NONE);
        Check.due("VOID", Integer.MIN_VALUE, () -> WallClocks.VOID);
    }

    /** Promise 2. */
    private static void feeding() {
        WallClocks x = new WallClocks();
        for (int k = 1; k <= 30; k++) {
            Check.due("feed " + k, 20 * k, () -> x.feed(0x20202020, 0x20202020, 0x20202020, 0x20202020, 0x20202020));
        }
        Check.due("feed beyond 600", NONE, () -> x.feed(0, 0, 0, 0, 0));
        Check.due("bytes then", 600, () -> x.count(1));
        Check.due("600 blanks are a wall", 0, () -> x.wall(600));
        Check.due("fed anew", 20, () -> x.feed(0x626f6172, 0x6420373b, 0, 0, -1));
        Check.due("the highest byte comes first", 0, () -> x.wall(8));
        Check.due("that board", 1, () -> x.told(0));
    }

    /** Promise 3. */
    private static void walls() {
        WallClocks x = new WallClocks();
        Check.illegal("wall of more than is there", () -> x.wall(1));
        Check.illegal("wall below 0", () -> x.wall(-1));
        int length = Check.feed(x, PAIR);
        Check.illegal("wall beyond the tape", () -> x.wall(81));
        Check.due("the tape stays", 80, () -> x.count(1));
        Check.due("two clocks", 2, () -> x.wall(length));
        Check.due("the tape is empty then", 0, () -> x.count(1));
        x.days(3);
        x.book(0, 5);
        x.image();
        Check.due("a fault", -9, () -> Check.read(x, "x"));
        Check.due("the tape is empty behind a fault", 0, () -> x.count(1));
        Check.due("the day stays", 3, () -> x.told(3));
        Check.due("the clocks stay", 2, () -> x.told(1));
        Check.due("the image stays", 1, () -> x.count(0));
        Check.due("the book stays", 5, () -> x.book(0, 6));
        Check.due("a new wall", 2, () -> Check.read(x, HELD));
        Check.due("day 0", 0, () -> x.told(3));
        Check.due("no images", 0, () -> x.count(0));
        Check.due("nothing to restore", -1, x::restore);
        Check.due("nothing booked", VOID, () -> x.book(0, 1));
        Check.due("off at first", 0, () -> x.clock(1, 6));
        Check.due("the last wall's E is gone", 50, () -> {
            Check.read(x, "board 1;");
            return x.told(4);
        });
        lastsCount();
    }

    private static void lastsCount() {
        WallClocks x = Check.walled(PAIR + "right 7;right 0009;hears 0 1 40;hears 0 1 3;damp 0 9;damp 0 2;key 0 30;key 0 9;sound 0;");
        Check.due("the last right", 9, () -> x.told(4));
        Check.due("the last hears", 28, () -> x.hearing(0, 1));
        Check.due("the last damp", -1, () -> x.off(0, 1));
        x.days(8);
        Check.due("the last key: not wound yet", 0, () -> x.clock(0, 7));
        x.days(1);
        Check.due("the last key: wound", 1, () -> x.clock(0, 7));
        Check.due("sound twice", 1, () -> x.told(5));
        Check.read(x, PAIR);
        Check.due("hears of an earlier wall is gone", 25, () -> x.hearing(0, 1));
        Check.due("damp of an earlier wall is gone", 1, () -> x.off(0, 1));
        x.days(8);
        Check.due("a key of an earlier wall is gone", 1, () -> x.clock(0, 7));
    }

    /** Promises 3 and 4: what can't stand there, and words. */
    private static void faults() {
        Check.fault(";", 1, 0);
        Check.fault("5", 1, 0);
        Check.fault("  boar 5;", 1, 2);
        Check.fault("boards 5;", 1, 0);
        Check.fault("Board 5;", 1, 0);
        Check.fault("board", 1, 5);
        Check.fault("board  ", 1, 7);
        Check.fault("board 5", 1, 7);
        Check.fault("board 5  ", 1, 9);
        Check.fault("board 5x;", 1, 7);
        Check.fault("board 5 5;", 1, 8);
        Check.fault("board ;", 1, 6);
        Check.fault("board -1;", 1, 6);
        Check.fault("board 5;;", 1, 8);
        Check.fault("board 5;\n", 1, 8);
        Check.fault("board 5;\u00e9", 1, 8);
        Check.fault("board\t5;", 1, 5);
        Check.fault("board 5;clock 0 0 100 1 0;", 1, 25);
        Check.whole("", 0);
        Check.whole("    ", 0);
        Check.whole("board5;clock0 0 100 1 0 0;", 1);
        Check.whole(" board 00000000000000000005 ; ", 0);
        WallClocks x = new WallClocks();
        Check.read(x, "board 5x;");
        Check.illegal("a wall that throws", () -> x.wall(1));
        Check.due("leaves the fault", 7, x::fault);
        Check.read(x, "");
        Check.due("fault behind a wall without", NONE, x::fault);
    }

    /** Promise 3: numbers that are none such, and what is too many. */
    private static void limits() {
        String board = "board 5;";
        String clock = board + "clock 0 0 100 1 0 0;";
        String two = clock + "clock 0 1 100 1 0 0;";
        Check.fault("board 0;", 2, 6);
        Check.fault("board 10;", 2, 6);
        Check.fault("board 4294967297;", 2, 6);
        Check.fault("board 18446744073709551617;", 2, 6);
        Check.fault(board + "clock 1 0 100 1 0 0;", 2, 14);
        Check.fault(board + "clock 0 20 100 1 0 0;", 2, 16);
        Check.fault(board + "clock 0 0 201 1 0 0;", 2, 18);
        Check.fault(board + "clock 0 0 200 0 0 0;", 2, 22);
        Check.fault(board + "clock 0 0 200 21 0 0;", 2, 22);
        Check.fault(board + "clock 0 0 200 20 5 0;", 2, 25);
        Check.fault(board + "clock 0 0 200 20 4 1000;", 2, 27);
        Check.whole(board + "clock 0 19 200 20 4 999;", 1);
        Check.whole(board + "clock 0 0 0 1 0 0;", 1);
        Check.fault(clock + "clock 0 0 x", 2, 36);
        Check.fault(clock + "hook 0 0;", 2, 35);
        Check.fault(board + "hook 0 3;hook 0 3;", 2, 24);
        Check.fault(board + "hook 0 3;clock 0 3 100 1 0 0;", 2, 25);
        Check.fault(board + "hook 1 3;", 2, 13);
        Check.fault(board + "hook 0 20;", 2, 15);
        Check.fault(two + "hears 0 2 1;", 2, 56);
        Check.fault(two + "hears 2 0 1;", 2, 54);
        Check.fault(two + "hears 1 1 1;", 2, 56);
        Check.fault(two + "hears 1 0 100;", 2, 58);
        Check.whole(two + "hears 1 0 99;hears 0 1 0;", 2);
        Check.fault("damp 400 1;", 2, 5);
        Check.fault("damp 399 51;", 2, 9);
        Check.whole("damp 399 50;damp 0 0;", 0);
        Check.fault(clock + "key 1 3;", 2, 32);
        Check.fault(clock + "key 0 0;", 2, 34);
        Check.fault(clock + "key 0 31;", 2, 34);
        Check.whole(clock + "key 0 30;key 0 1;", 1);
        Check.fault(clock + "sound 1;", 2, 34);
        Check.fault("right 500;", 2, 6);
        Check.whole("right 499;", 0);
        Check.fault("sound 0;" + clock, 2, 6);
        tooMany();
    }

    private static void tooMany() {
        String boards = "board 1;board 2;board 3;board 4;";
        Check.fault(boards + "board 0;", 3, 32);
        Check.fault(boards + "boar", 1, 32);
        StringBuilder clocks = new StringBuilder("board 5;");
        for (int i = 0; i < 8; i++) {
            clocks.append("clock 0 ").append(i).append(" 100 1 0 0;");
        }
        Check.whole(clocks.toString(), 8);
        Check.fault(clocks + " clock 9", 3, clocks.length() + 1);
        StringBuilder hooks = new StringBuilder("board 5;");
        for (int i = 0; i < 6; i++) {
            hooks.append("hook 0 ").append(i).append(";");
        }
        Check.whole(hooks.toString(), 0);
        Check.fault(hooks + "hook 0 9;", 3, hooks.length());
        String sixty = "right 1;".repeat(60);
        Check.whole(sixty + "   ", 0);
        Check.fault(sixty + "right 1;", 3, 480);
        Check.fault(sixty + "  board 0;", 3, 482);
        Check.fault(sixty + "lift 1;", 1, 480);
        Check.fault(sixty + ";", 1, 480);
        Check.fault("right 1;".repeat(59) + "lift 1;", 1, 472);
    }

    /** Promise 5. */
    private static void tellings() {
        WallClocks x = Check.walled("board 5;board 6;clock 1 0 100 1 0 0;clock 0 0 100 1 0 0;clock 0 1 100 1 0 0;hook 0 7;sound 2;sound 0;right 77;");
        x.days(4);
        int[] want = {2, 3, 1, 4, 77, 5};
        for (int what = 0; what < want.length; what++) {
            int asked = what;
            Check.due("told " + what, want[what], () -> x.told(asked));
        }
        Check.illegal("told -1", () -> x.told(-1));
        Check.illegal("told 6", () -> x.told(6));
    }

    /** Promise 6. */
    private static void clocksToday() {
        WallClocks x = Check.walled("board 5;board 5;clock 0 4 103 7 4 990;clock 1 2 100 3 3 49;clock 1 9 100 3 3 50;clock 1 1 100 3 0 0;key 3 20;");
        int[] want = {0, 4, 3, 7, 4, 990, 0, 1, 0};
        for (int what = 0; what < want.length; what++) {
            int asked = what;
            Check.due("clock 0 " + what, want[what], () -> x.clock(0, asked));
        }
        Check.due("a cuckoo does not stop itself", 0, () -> x.clock(1, 8));
        Check.due("another cuckoo is stopped", 1, () -> x.clock(2, 8));
        Check.due("one on its board is stopped", 1, () -> x.clock(3, 8));
        x.days(4);
        Check.due("phase goes round", 2, () -> x.clock(0, 5));
        Check.due("off goes on", 12, () -> x.clock(0, 6));
        x.days(3);
        Check.due("runs on day 7", 1, () -> x.clock(3, 7));
        x.days(1);
        Check.due("does not run on day 8", 0, () -> x.clock(3, 7));
        Check.due("is stopped though it does not run", 1, () -> x.clock(3, 8));
        x.days(12);
        Check.due("is wound on day 20", 1, () -> x.clock(3, 7));
        Check.noSuch("clock 4", () -> x.clock(4, 0));
        Check.noSuch("clock -1, ahead of what", () -> x.clock(-1, 9));
        Check.illegal("what 9", () -> x.clock(0, 9));
        Check.illegal("what -1", () -> x.clock(0, -1));
        WallClocks both = Check.walled("board 9;clock 0 0 100 1 3 10;clock 0 1 100 1 3 20;");
        Check.due("two cuckoos stop one another", 1, () -> both.clock(0, 8) & both.clock(1, 8));
        WallClocks still = Check.walled("board 9;clock 0 0 100 1 3 0;clock 0 1 100 1 0 500;key 0 9;");
        still.days(8);
        Check.due("a cuckoo that does not run stops nobody", 0, () -> still.clock(1, 8));
    }

    /** Promise 7. */
    private static void hearings() {
        WallClocks x = Check.walled("board 3;board 9;clock 0 0 100 5 0 0;clock 0 2 100 7 4 0;clock 1 0 100 20 0 0;clock 0 19 100 9 1 0;"
                + "clock 0 1 100 9 2 0;hears 0 2 11;hears 0 1 99;hears 3 0 50;hears 4 0 50;hears 0 4 50;hook 1 1;");
        Check.due("heavy counts twice, and hears more", 14 * 7 / 3 + 99, () -> x.hearing(0, 1));
        Check.due("the other way", 5 * 7 / 3, () -> x.hearing(1, 0));
        Check.due("on another board hears alone", 11, () -> x.hearing(0, 2));
        Check.due("on another board nothing", 0, () -> x.hearing(2, 0));
        Check.due("a leading one is heard", 9 * 7 / 20, () -> x.hearing(0, 3));
        Check.due("a leading one hears nobody", 0, () -> x.hearing(3, 0));
        Check.due("a deaf one hears nobody", 0, () -> x.hearing(4, 0));
        Check.due("a deaf one is not heard", 0, () -> x.hearing(0, 4));
        x.hang(0, 0);
        Check.due("as they hang now", 20 / 2 + 11, () -> x.hearing(0, 2));
        Check.illegal("hearing of itself", () -> x.hearing(1, 1));
        Check.noSuch("hearing of none", () -> x.hearing(0, 5));
        Check.noSuch("hearing by none", () -> x.hearing(-1, -1));
    }

    /** Promise 8. */
    private static void aparts() {
        WallClocks x = Check.walled("board 5;clock 0 0 100 1 2 0;clock 0 1 100 1 2 499;clock 0 2 100 1 2 500;clock 0 3 100 1 2 501;");
        Check.due("499 on", 499, () -> x.apart(0, 1));
        Check.due("499 back", -499, () -> x.apart(1, 0));
        Check.due("half a beat", -500, () -> x.apart(0, 2));
        Check.due("half a beat back", -500, () -> x.apart(2, 0));
        Check.due("501 on", -499, () -> x.apart(0, 3));
        Check.illegal("apart from itself", () -> x.apart(0, 0));
        Check.noSuch("apart from none", () -> x.apart(0, 4));
    }

    private static int pullBy(int phase, int other) {
        return Check.walled("board 1;clock 0 0 100 1 0 " + phase + ";clock 0 1 100 20 4 " + other + ";").pull(0);
    }

    /** Promise 9; HEARING is 180, so that a part of TENDENCY pulls by 1.8. */
    private static void pulls() {
        Check.due("cut toward 0", 1, () -> pullBy(0, 1));
        Check.due("cut toward 0 from below", -1, () -> pullBy(1, 0));
        Check.due("100 on", 180, () -> pullBy(0, 100));
        Check.due("200 at most", 200, () -> pullBy(0, 250));
        Check.due("-200 at least", -200, () -> pullBy(250, 0));
        Check.due("251 on pulls back", -200, () -> pullBy(0, 251));
        Check.due("251 back pulls on", 200, () -> pullBy(251, 0));
        Check.due("450 on", -90, () -> pullBy(0, 450));
        Check.due("450 back", 90, () -> pullBy(450, 0));
        Check.due("half a beat", 0, () -> pullBy(0, 500));
        WallClocks x = Check.walled("board 1;clock 0 0 100 1 0 0;clock 0 1 100 10 2 50;clock 0 2 100 10 0 40;clock 0 3 100 10 1 60;");
        Check.due("all others together, but deaf ones", (30 * 40 + 22 * 60) / 100, () -> x.pull(0));
        Check.due("a leading one is not pulled", 0, () -> x.pull(3));
        WallClocks unwound = Check.walled("board 1;clock 0 0 100 1 0 0;clock 0 1 100 10 1 50;key 1 9;");
        Check.due("a leading one pulls", 22, () -> unwound.pull(0));
        WallClocks keyed = Check.walled("board 1;clock 0 0 100 1 1 0;clock 0 1 100 1 0 50;key 0 9;");
        keyed.days(8);
        int apart = keyed.apart(1, 0);
        Check.due("who does not run is not heard", 0, () -> keyed.pull(1));
        keyed.days(1);
        Check.due("who is wound again is heard", 4 * apart / 100, () -> keyed.pull(1));
        WallClocks stopped = Check.walled("board 1;board 2;clock 0 0 100 20 3 30;clock 0 1 100 1 0 200;clock 1 0 100 1 0 100;hears 2 1 99;hears 1 0 9;hears 2 0 50;");
        Check.due("a stopped one is not pulled", 0, () -> stopped.pull(1));
        Check.due("a stopped one is not heard, its cuckoo is", 50 * -70 / 100, () -> stopped.pull(2));
        Check.noSuch("pull on none", () -> stopped.pull(3));
        Check.noSuch("pull on -1", () -> stopped.pull(-1));
    }

    /** Promise 10. */
    private static void daysGone() {
        WallClocks x = Check.walled("board 1;clock 0 0 100 20 1 0;clock 0 1 110 1 0 0;clock 0 2 100 1 2 0;damp 2 3;damp 399 50;key 2 30;");
        Check.due("three days", 3, () -> x.days(3));
        Check.due("held, with a damp day", 9, () -> x.clock(1, 6));
        Check.due("damp on the third day alone", -3, () -> x.clock(2, 6));
        Check.illegal("days 0", () -> x.days(0));
        Check.illegal("days 401", () -> x.days(401));
        Check.due("to the 400th", 397, () -> x.days(400));
        Check.due("day 400", 400, () -> x.told(3));
        Check.due("the last day is damp", -53, () -> x.clock(0, 6));
        Check.due("none behind it", 0, () -> x.days(1));
        WallClocks stood = Check.walled("board 9;clock 0 0 105 1 3 0;clock 0 1 107 1 0 500;");
        stood.days(10);
        Check.due("the cuckoo goes on", 50, () -> stood.clock(0, 6));
        Check.due("the other one stood still", 0, () -> stood.clock(1, 6));
        stood.days(1);
        Check.due("the other one goes again", 7, () -> stood.clock(1, 6));
        WallClocks at = Check.walled(PAIR);
        at.days(1);
        Check.due("all from the phases as the day begins", "101 149", () -> at.clock(0, 5) + " " + at.clock(1, 5));
    }

    /** Promise 11. */
    private static void daysUndone() {
        WallClocks x = Check.walled(PAIR);
        x.days(20);
        int phase = x.clock(1, 5);
        int off = x.clock(1, 6);
        x.hang(1, 0);
        x.days(30);
        Check.illegal("undo 0", () -> x.undo(0));
        Check.illegal("undo 401", () -> x.undo(401));
        Check.due("thirty undone", 30, () -> x.undo(30));
        Check.due("phase as it was", phase, () -> x.clock(1, 5));
        Check.due("off as it was", off, () -> x.clock(1, 6));
        Check.due("day as it was", 20, () -> x.told(3));
        Check.due("it hangs as it hangs now", 5, () -> x.clock(1, 1));
        Check.due("to day 0", 20, () -> x.undo(400));
        Check.due("off at day 0", 0, () -> x.clock(1, 6));
        Check.due("phase at day 0", 140, () -> x.clock(1, 5));
        Check.due("nothing left", 0, () -> x.undo(1));
        x.days(1);
        Check.due("the same day otherwise hung", 10, () -> x.clock(1, 6));
    }

    /** Promise 12. */
    private static void steps() {
        int[][] want = {{0, 2}, {20, 2}, {21, 0}, {479, 0}, {480, 1}, {500, 1}, {520, 1}, {521, 0}, {979, 0}, {980, 2}, {999, 2}};
        for (int[] row : want) {
            WallClocks x = Check.walled("board 5;clock 0 0 100 1 2 0;clock 0 1 100 1 2 " + row[0] + ";");
            Check.due("step at " + row[0], row[1], () -> x.step(0, 1));
            Check.due("step back at " + row[0], row[1], () -> x.step(1, 0));
        }
        WallClocks x = Check.walled(PAIR);
        Check.illegal("step with itself", () -> x.step(1, 1));
        Check.noSuch("step with none", () -> x.step(0, 2));
    }

    /** Promise 13. */
    private static void rights() {
        WallClocks x = Check.walled("board 5;clock 0 0 107 1 2 0;clock 0 1 93 1 2 0;clock 0 2 108 1 2 0;clock 0 3 92 1 2 0;clock 0 4 100 1 2 0;right 7;");
        Check.due("all at first", 31, x::right);
        x.days(1);
        Check.due("to E on both sides", 1 | 2 | 16, x::right);
        x.days(1);
        Check.due("one is left", 16, x::right);
        WallClocks strict = Check.walled("board 5;clock 0 0 101 1 2 0;clock 0 1 100 1 2 0;right 0;");
        strict.days(1);
        Check.due("E 0", 2, strict::right);
    }

    /** Promise 14. */
    private static void groupings() {
        WallClocks x = Check.walled("board 5;clock 0 0 100 1 2 40;clock 0 1 100 1 2 0;clock 0 2 100 1 2 100;clock 0 3 100 1 2 20;clock 0 4 100 1 2 500;");
        Check.due("bound by one between", 3, x::groups);
        WallClocks one = Check.walled("board 5;clock 0 0 100 1 2 990;clock 0 1 100 1 2 5;");
        Check.due("round", 1, one::groups);
    }

    /** Promise 15. */
    private static void offs() {
        WallClocks x = Check.walled(HELD + "damp 0 0;");
        int[] want = {0, 10, 11, 12, 12};
        for (int n = 1; n < want.length; n++) {
            int on = n;
            Check.due("off " + n + " days on", want[n], () -> x.off(1, on));
        }
        Check.due("nothing stays changed", 0, () -> x.clock(1, 6));
        Check.due("nor the day", 0, () -> x.told(3));
        Check.due("100 days on", 12, () -> x.off(1, 100));
        Check.illegal("0 days on", () -> x.off(1, 0));
        Check.illegal("101 days on", () -> x.off(1, 101));
        Check.noSuch("off of none", () -> x.off(2, 0));
        WallClocks late = Check.walled("board 5;clock 0 0 101 1 2 0;clock 0 1 101 1 2 0;damp 399 50;key 1 30;");
        late.days(399);
        Check.due("behind the 400th too", 399 + 30 - 50, () -> late.off(0, 30));
        Check.due("with its keys", 14 * 8 + 8, () -> late.off(1, 30));
    }

    /** Promises 16 and 17. */
    private static void hangs() {
        WallClocks x = Check.walled(FAR);
        Check.due("hook's board", 1, () -> x.hook(0, 0));
        Check.due("hook's place", 5, () -> x.hook(0, 1));
        Check.due("hung", 1, () -> x.hang(1, 2));
        Check.due("where it hangs", "0 2", () -> x.clock(1, 0) + " " + x.clock(1, 1));
        Check.due("what is free", "1 0", () -> x.hook(2, 0) + " " + x.hook(2, 1));
        x.hang(0, 2);
        Check.due("another one hangs there", "1 0", () -> x.clock(0, 0) + " " + x.clock(0, 1));
        Check.due("its place is free", "0 0", () -> x.hook(2, 0) + " " + x.hook(2, 1));
        Check.noSuch("no such clock", () -> x.hang(2, 0));
        Check.noSuch("no such hook to hang on", () -> x.hang(0, 3));
        Check.noSuch("hook -1 to hang on", () -> x.hang(0, -1));
        Check.noSuch("no such hook", () -> x.hook(3, 7));
        Check.noSuch("hook -1", () -> x.hook(-1, 0));
        Check.illegal("what of a hook", () -> x.hook(0, 2));
        Check.illegal("what -1 of a hook", () -> x.hook(0, -1));
        Check.read(x, FAR);
        Check.due("a new wall hangs as told", "1 5", () -> x.hook(0, 0) + " " + x.hook(0, 1));
    }

    /** Promise 18. */
    private static void standings() {
        WallClocks x = Check.walled("board 5;clock 0 0 100 1 2 0;clock 0 1 100 1 2 100;clock 0 2 110 1 2 200;key 2 30;");
        Check.due("one goes quicker", false, () -> x.standing(1));
        Check.due("it still runs then", false, () -> x.standing(7));
        Check.due("it does not run then", true, () -> x.standing(8));
        Check.illegal("standing 0", () -> x.standing(0));
        Check.illegal("standing 101", () -> x.standing(101));
        WallClocks unlike = Check.walled("board 5;clock 0 0 110 1 2 0;clock 0 1 100 1 2 100;clock 0 2 100 1 2 0;key 0 30;");
        Check.due("from the first that runs then", true, () -> unlike.standing(8));
        Check.due("the same from day 0", true, () -> Check.walled(DEAF).standing(100));
        Check.due("a whole beat on", true, () -> Check.walled("board 5;clock 0 0 100 1 2 0;clock 0 1 110 1 2 0;").standing(100));
    }

    /** Promise 19. */
    private static void pushes() {
        WallClocks x = Check.walled(DEAF);
        Check.due("all stay in step", 4, () -> x.pushed(20, 5));
        Check.due("none does", 0, () -> x.pushed(21, 5));
        Check.illegal("m 0", () -> x.pushed(0, 5));
        Check.illegal("m 201", () -> x.pushed(201, 5));
        Check.illegal("n 0", () -> x.pushed(1, 0));
        Check.illegal("n 101", () -> x.pushed(1, 101));
        WallClocks near = Check.walled("board 5;clock 0 0 100 1 2 0;clock 0 1 100 1 2 30;");
        Check.due("no others come in step", 2, () -> near.pushed(10, 1));
        Check.due("never in step", 4, () -> Check.walled("board 5;clock 0 0 100 1 2 0;clock 0 1 100 1 2 500;").pushed(200, 1));
        WallClocks drawnBack = Check.walled("board 1;clock 0 0 100 20 1 0;clock 0 1 100 1 0 0;");
        Check.due("all drawn back", 4, () -> drawnBack.pushed(100, 100));
        Check.due("nothing stays changed", 0, () -> drawnBack.clock(1, 5));
    }

    /** Promise 20. */
    private static void beginningsTried() {
        WallClocks x = Check.walled("board 5;clock 0 0 110 1 2 700;clock 0 1 100 1 2 0;");
        Check.due("in step", 1, () -> x.beginnings(0, 1, 2, 0));
        Check.due("in counter-beat", 1, () -> x.beginnings(0, 1, 2, 1));
        Check.due("neither", 18, () -> x.beginnings(0, 1, 2, 2));
        Check.due("25 parts off", 20, () -> Check.walled("board 5;clock 0 0 125 1 2 0;clock 0 1 100 1 2 0;").beginnings(0, 1, 1, 2));
        WallClocks held = Check.walled(HELD);
        Check.due("drawn to step or counter-beat", "11 9 0", () -> held.beginnings(1, 0, 100, 0) + " " + held.beginnings(1, 0, 100, 1)
                + " " + held.beginnings(1, 0, 100, 2));
        Check.due("its own phase does not count", 700, () -> x.clock(0, 5));
        Check.illegal("what 3", () -> x.beginnings(0, 1, 2, 3));
        Check.illegal("what -1", () -> x.beginnings(0, 1, 2, -1));
        Check.illegal("n 0", () -> x.beginnings(0, 1, 0, 0));
        Check.illegal("with itself", () -> x.beginnings(0, 0, 2, 0));
        Check.noSuch("with none", () -> x.beginnings(0, 2, 0, 9));
    }

    /** Promise 21. */
    private static void aways() {
        WallClocks x = Check.walled(HELD);
        Check.due("who is held falls out", 2, () -> x.away(0, 4));
        Check.due("not yet", 0, () -> x.away(0, 3));
        Check.due("the leading one needs nobody", 0, () -> x.away(1, 4));
        Check.due("all hang again", 2, () -> x.told(1));
        WallClocks cuckoo = Check.walled("board 9;clock 0 0 100 1 3 0;clock 0 1 110 1 2 0;right 30;");
        Check.due("a cuckoo taken down stops nobody", 2, () -> cuckoo.away(0, 4));
        Check.illegal("n 0", () -> x.away(0, 0));
        Check.illegal("n 101", () -> x.away(0, 101));
        Check.noSuch("none away", () -> x.away(2, 0));
    }

    /** Promise 22. */
    private static void holds() {
        Check.due("one holds", 1, () -> Check.walled(HELD).hold(50));
        Check.due("none is sound", NONE, () -> Check.walled(DEAF).hold(1));
        String boards = "board 1;board 1;clock 0 0 100 20 1 0;clock 0 1 110 1 0 0;clock 1 0 100 20 1 300;clock 1 1 110 1 0 300;";
        Check.due("each board needs its own", 5, () -> Check.walled(boards + "sound 0;sound 2;").hold(50));
        Check.due("one board is not held", NONE, () -> Check.walled(boards + "sound 0;").hold(50));
        Check.due("all that are left are sound", 1, () -> Check.walled(boards + "sound 0;sound 1;sound 2;sound 3;").hold(50));
        String spare = boards + "clock 0 2 100 20 1 0;sound 0;sound 2;sound 4;";
        Check.due("the least of two such sets", 5, () -> Check.walled(spare).hold(50));
        Check.due("the only such set", 20, () -> Check.walled(spare.replace("clock 0 0 100 20 1 0", "clock 0 19 100 1 2 600")).hold(50));
        Check.due("the first one needs to be held", NONE, () -> Check.walled("board 9;clock 0 0 100 1 0 500;clock 0 1 100 1 0 0;sound 1;").hold(1));
        Check.due("deaf ones need not be held", 1, () -> Check.walled(HELD + "clock 0 5 100 1 2 500;").hold(50));
        String torn = "board 1;clock 0 0 100 5 1 0;clock 0 2 101 1 0 0;clock 0 1 100 20 1 250;sound 0;";
        Check.due("another one tears it away", NONE, () -> Check.walled(torn).hold(50));
        Check.due("other sound ones are taken down", 1, () -> Check.walled(torn + "sound 2;").hold(50));
        WallClocks x = Check.walled(HELD);
        Check.illegal("n 0", () -> x.hold(0));
        Check.illegal("n 101", () -> x.hold(101));
    }

    /** Promise 23. */
    private static void hungs() {
        WallClocks x = Check.walled(FAR);
        Check.due("the first way", 2, () -> x.hung(2, 10, 0));
        Check.due("alike ones: the first", 2, () -> x.hung(2, 10, 1));
        Check.due("that weight", 21, () -> x.hung(2, 10, 2));
        Check.due("early all ways do", 1, () -> x.hung(2, 1, 0));
        Check.due("both, each on one", 12, () -> x.hung(3, 1, 0));
        Check.due("both, later", 23, () -> x.hung(3, 10, 0));
        WallClocks later = Check.walled("board 1;board 9;clock 0 0 100 20 1 0;clock 1 0 110 1 0 0;hook 0 1;hook 1 5;right 20;");
        Check.due("first: beside the heavier one", 1, () -> later.hung(2, 1, 0));
        Check.due("least weight: on its own", 2, () -> later.hung(2, 1, 1));
        Check.due("that least weight", 20, () -> later.hung(2, 1, 2));
        Check.due("no way", NONE, () -> Check.walled(PAIR).hung(3, 1, 0));
        Check.due("no way, no weight", NONE, () -> Check.walled(PAIR).hung(3, 1, 2));
        Check.due("no hooks", NONE, () -> Check.walled(HELD).hung(1, 1, 1));
        Check.due("all hang as before", "1 0", () -> x.clock(1, 0) + " " + x.clock(1, 1));
        Check.illegal("no clocks", () -> x.hung(0, 1, 0));
        Check.illegal("bits of none", () -> x.hung(4, 1, 0));
        Check.illegal("bits below 0", () -> x.hung(-1, 1, 0));
        Check.illegal("n 0", () -> x.hung(1, 0, 0));
        Check.illegal("n 101", () -> x.hung(1, 101, 0));
        Check.illegal("what 3", () -> x.hung(1, 1, 3));
        Check.illegal("what -1", () -> x.hung(1, 1, -1));
        WallClocks five = Check.walled("board 5;clock 0 0 100 1 2 0;clock 0 1 100 1 2 0;clock 0 2 100 1 2 0;clock 0 3 100 1 2 0;clock 0 4 100 1 2 0;"
                + "hook 0 5;hook 0 6;hook 0 7;hook 0 8;hook 0 9;hook 0 10;");
        Check.due("four", 1234, () -> five.hung(30, 1, 0));
        Check.illegal("five", () -> five.hung(31, 1, 0));
    }

    /** Promise 24. */
    private static void ownRates() {
        WallClocks x = Check.walled("board 5;clock 0 0 103 1 2 0;damp 12 9;");
        Check.due("exactly one", "1 5 5", () -> x.own(0, 50, 0, 10, 0) + " " + x.own(0, 50, 0, 10, 1) + " " + x.own(0, 50, 0, 10, 2));
        Check.due("to 9 parts", 1, () -> x.own(0, 50, 9, 10, 0));
        Check.due("to 10 parts", "3 4 6", () -> x.own(0, 50, 10, 10, 0) + " " + x.own(0, 50, 10, 10, 1) + " " + x.own(0, 50, 10, 10, 2));
        Check.due("none", "0 " + VOID + " " + VOID, () -> x.own(0, 55, 4, 10, 0) + " " + x.own(0, 55, 4, 10, 1) + " " + x.own(0, 55, 4, 10, 2));
        Check.due("-100 and 100 are rates", "1 1", () -> x.own(0, -100, 0, 1, 0) + " " + x.own(0, 100, 0, 1, 0));
        Check.due("101 is none", 0, () -> x.own(0, 101, 0, 1, 0));
        Check.due("all", 201, () -> x.own(0, 0, 100, 1, 0));
        x.days(10);
        Check.due("with what it is off by now, and damp", 4, () -> x.own(0, 30 + 12 - 9, 0, 3, 1));
        Check.due("its own rate is as it was", 3, () -> x.clock(0, 2));
        Check.illegal("off above", () -> x.own(0, 100_000, 0, 1, 0));
        Check.illegal("off below", () -> x.own(0, -100_000, 0, 1, 0));
        Check.due("off at its limits", 0, () -> x.own(0, 99_999, 0, 1, 0) + x.own(0, -99_999, 999, 1, 0));
        Check.illegal("d above", () -> x.own(0, 0, 1000, 1, 0));
        Check.illegal("d below", () -> x.own(0, 0, -1, 1, 0));
        Check.illegal("n 0", () -> x.own(0, 0, 0, 0, 0));
        Check.illegal("n 101", () -> x.own(0, 0, 0, 101, 0));
        Check.illegal("what 3", () -> x.own(0, 0, 0, 1, 3));
        Check.noSuch("own of none", () -> x.own(1, 100_000, 0, 1, 0));
    }

    /** Promise 25. */
    private static void looks() {
        WallClocks x = Check.walled("board 5;clock 0 0 103 1 2 0;key 0 10;");
        Check.due("at once", "1 201", () -> x.look(0, 9, 0) + " " + x.look(0, 9, 1));
        x.days(8);
        Check.due("while it does not run", "1 1", () -> x.look(0, 2, 0) + " " + x.look(0, 2, 1));
        Check.due("when it runs again", "3 201", () -> x.look(0, 5, 0) + " " + x.look(0, 5, 1));
        Check.due("its rate stays", 3, () -> x.clock(0, 2));
        WallClocks stopped = Check.walled("board 9;clock 0 0 110 1 3 0;clock 0 1 100 1 0 500;");
        Check.due("when the cuckoo is past", "6 201", () -> stopped.look(1, 6, 0) + " " + stopped.look(1, 6, 1));
        Check.due("not so far", "1 1", () -> stopped.look(1, 5, 0) + " " + stopped.look(1, 5, 1));
        Check.illegal("n 0", () -> x.look(0, 0, 0));
        Check.illegal("n 101", () -> x.look(0, 101, 0));
        Check.illegal("what 2", () -> x.look(0, 1, 2));
        Check.noSuch("look at none", () -> x.look(1, 0, 0));
    }

    /** Promise 26. */
    private static void books() {
        WallClocks x = Check.walled(PAIR);
        Check.due("nothing at first", VOID, () -> x.book(1, 9));
        Check.due("what it told", 9, () -> x.book(1, -99_999));
        Check.due("the least", -99_999, () -> x.book(1, 99_999));
        Check.due("the greatest", 99_999, () -> x.book(1, VOID));
        Check.due("nothing again", VOID, () -> x.book(1, 3));
        Check.illegal("above", () -> x.book(1, 100_000));
        Check.illegal("below", () -> x.book(1, -100_000));
        Check.illegal("near VOID", () -> x.book(1, VOID + 1));
        Check.due("wrong ones change nothing", 3, () -> x.book(1, 3));
        Check.noSuch("book of none", () -> x.book(2, 100_000));
        x.days(5);
        x.undo(5);
        Check.due("days leave it", 3, () -> x.book(1, 3));
    }

    /** Promise 27. */
    private static void infections() {
        WallClocks x = Check.walled(DEAF);
        Check.due("nothing told: any", 3, () -> x.infected(3));
        x.book(0, 30);
        Check.due("a rate of 10 explains", 1, () -> x.infected(3));
        Check.due("not on another day", 0, () -> x.infected(7));
        x.book(0, 300);
        Check.due("a rate of 100 explains", 1, () -> x.infected(3));
        x.book(0, -300);
        Check.due("a rate of -100 explains", 1, () -> x.infected(3));
        x.book(0, -303);
        Check.due("there is no rate of -101", 0, () -> x.infected(3));
        x.book(0, 30);
        x.book(1, 5);
        Check.due("not both", 0, () -> x.infected(3));
        x.book(1, 0);
        Check.due("what is as it is", 1, () -> x.infected(3));
        x.book(0, 0);
        Check.due("its own rate is no other one", 0, () -> x.infected(3));
        x.book(1, VOID);
        Check.due("the other one may have any", 2, () -> x.infected(3));
        WallClocks held = Check.walled("board 1;clock 0 0 100 20 1 0;clock 0 1 100 1 0 0;");
        held.book(1, 9);
        Check.due("which one infected the wall", 1 | 2, () -> held.infected(2));
        held.book(0, 20);
        Check.due("the leading one", 1, () -> held.infected(2));
        Check.illegal("n 0", () -> x.infected(0));
        Check.illegal("n 101", () -> x.infected(101));
    }

    /** Promise 28. */
    private static void frauds() {
        WallClocks x = Check.walled(HELD);
        Check.due("right only there", true, () -> x.fraud(1, 4));
        Check.due("right alone too", false, () -> x.fraud(1, 3));
        Check.due("the leading one is right anywhere", false, () -> x.fraud(0, 100));
        WallClocks wrong = Check.walled("board 5;clock 0 0 120 1 2 0;right 30;");
        Check.due("not right there", false, () -> wrong.fraud(0, 2));
        WallClocks later = Check.walled(HELD);
        later.days(4);
        Check.due("alone from now on", "false true", () -> later.fraud(1, 1) + " " + later.fraud(1, 2));
        WallClocks cuckoo = Check.walled("board 9;clock 0 0 100 1 3 30;clock 0 1 110 1 2 0;right 30;key 1 9;damp 1 20;");
        Check.due("alone it is not stopped; it is damp", "false true", () -> cuckoo.fraud(1, 5) + " " + cuckoo.fraud(1, 6));
        WallClocks keyed = Check.walled("board 9;clock 0 0 100 1 3 0;clock 0 1 110 1 2 0;right 80;key 1 9;");
        Check.due("alone it does not run on the ninth day", "false true", () -> keyed.fraud(1, 9) + " " + keyed.fraud(1, 10));
        Check.illegal("n 0", () -> x.fraud(1, 0));
        Check.illegal("n 101", () -> x.fraud(1, 101));
        Check.noSuch("fraud of none", () -> x.fraud(2, 0));
    }

    /** Promise 29. */
    private static void staying() {
        WallClocks x = Check.walled(DEAF + "clock 0 2 105 1 2 0;damp 0 50;key 1 30;");
        x.days(8);
        Check.due("all stay", "1000 0", () -> x.stays(0, 1, 0) + " " + x.stays(0, 1, 1));
        Check.due("none stays", "0 -1", () -> x.stays(0, 2, 0) + " " + x.stays(0, 2, 1));
        WallClocks cuckoo = Check.walled("board 5;board 5;clock 0 0 110 1 2 0;clock 0 1 110 1 3 700;hook 1 0;");
        Check.due("but where a cuckoo stops the other", "950 0", () -> cuckoo.stays(0, 1, 0) + " " + cuckoo.stays(0, 1, 1));
        Check.due("the first one begins at 500", 1000, () -> cuckoo.stays(1, 0, 0));
        cuckoo.hang(1, 0);
        Check.due("as they hang now", 1000, () -> cuckoo.stays(0, 1, 0));
        WallClocks pair = Check.walled(PAIR);
        Check.due("where both pull by 5", "80 200", () -> pair.stays(0, 1, 0) + " " + pair.stays(0, 1, 1));
        Check.illegal("what 2", () -> x.stays(0, 1, 2));
        Check.illegal("what -1", () -> x.stays(0, 1, -1));
        Check.illegal("with itself", () -> x.stays(1, 1, 0));
        Check.noSuch("with none", () -> x.stays(0, 3, 9));
    }

    /** Promise 30. */
    private static void drawnDeltas() {
        WallClocks x = Check.walled("board 5;clock 0 0 110 1 2 0;clock 0 1 110 1 3 700;clock 0 2 110 20 3 0;damp 0 50;key 0 30;");
        x.days(8);
        Check.due("a cuckoo stops the other one", 510, () -> x.drawn(0, 1, 500, 1));
        Check.due("until it is past", 550, () -> x.drawn(0, 1, 500, 100));
        Check.due("not yet", 499, () -> x.drawn(0, 1, 499, 1));
        Check.due("as it comes round", 549, () -> x.drawn(0, 1, 499, 50));
        WallClocks pair = Check.walled(PAIR);
        Check.due("drawn near, but for the rate", 48, () -> pair.drawn(0, 1, 40, 1));
        Check.due("round", 991 + 10 - 1000, () -> Check.walled("board 5;clock 0 0 100 1 2 0;clock 0 1 110 1 2 0;").drawn(0, 1, 991, 1));
        Check.due("the least and the greatest delta", "0 999", () -> Check.walled(DEAF).drawn(0, 1, 0, 1) + " " + Check.walled(DEAF).drawn(0, 1, 999, 1));
        Check.illegal("delta 1000", () -> x.drawn(0, 1, 1000, 1));
        Check.illegal("delta -1", () -> x.drawn(0, 1, -1, 1));
        Check.illegal("n 0", () -> x.drawn(0, 1, 0, 0));
        Check.illegal("n 101", () -> x.drawn(0, 1, 0, 101));
        Check.illegal("with itself", () -> x.drawn(0, 0, 0, 1));
        Check.noSuch("with none", () -> x.drawn(3, 0, 1000, 1));
        Check.due("nothing stays changed", 8, () -> x.told(3));
    }

    /** Promise 31. */
    private static void coming() {
        WallClocks x = Check.walled(DEAF);
        Check.due("as they begin", "5 5 90", () -> x.comes(0, 1, 9, 0) + " " + x.comes(0, 1, 9, 1) + " " + x.comes(0, 1, 9, 2));
        WallClocks held = Check.walled(HELD);
        Check.due("all are drawn", "51 49 0", () -> held.comes(0, 1, 100, 0) + " " + held.comes(0, 1, 100, 1) + " " + held.comes(0, 1, 100, 2));
        Check.illegal("what 3", () -> x.comes(0, 1, 1, 3));
        Check.illegal("what -1", () -> x.comes(0, 1, 1, -1));
        Check.illegal("n 0", () -> x.comes(0, 1, 0, 0));
        Check.illegal("n 101", () -> x.comes(0, 1, 101, 0));
        Check.illegal("with itself", () -> x.comes(0, 0, 1, 0));
        Check.noSuch("with none", () -> x.comes(0, 2, 0, 0));
    }

    /** Promise 32. */
    private static void leaders() {
        WallClocks x = Check.walled(HELD);
        Check.due("nothing goes otherwise yet", NONE, () -> x.leader(1));
        Check.due("the leading one", 0, () -> x.leader(2));
        Check.due("told as the second", 1, () -> Check.walled("board 1;clock 0 0 110 1 0 0;clock 0 1 100 20 1 0;").leader(4));
        Check.due("alike: the first", 0, () -> Check.walled(PAIR).leader(1));
        Check.due("below and above count alike", 0, () -> Check.walled("board 9;board 9;board 9;clock 0 0 100 20 1 0;clock 1 0 110 1 0 0;"
                + "clock 2 0 90 1 0 0;hears 1 0 90;hears 2 0 90;").leader(4));
        Check.due("a cuckoo that stops others", 1, () -> Check.walled("board 9;clock 0 0 110 1 2 0;clock 0 1 100 1 3 0;").leader(1));
        Check.illegal("n 0", () -> x.leader(0));
        Check.illegal("n 101", () -> x.leader(101));
    }

    /** Promise 33. */
    private static void betters() {
        WallClocks x = Check.walled(FAR);
        Check.due("the quick one to the leading one", "101 2", () -> x.better(10, 0) + " " + x.better(10, 1));
        Check.due("none is more", "-1 -1", () -> x.better(1, 0) + " " + x.better(1, 1));
        Check.due("no hooks", NONE, () -> Check.walled(HELD).better(4, 0));
        Check.due("all hang as before", "1 0", () -> x.clock(1, 0) + " " + x.clock(1, 1));
        WallClocks stopped = Check.walled("board 9;board 9;clock 0 0 110 1 2 0;clock 1 0 105 1 3 0;clock 1 1 110 1 2 0;hook 0 1;hook 1 2;hook 1 3;right 5;");
        Check.due("of alike ones the first: beside the cuckoo", "1 3", () -> stopped.better(1, 0) + " " + stopped.better(1, 1));
        Check.illegal("what 2", () -> x.better(1, 2));
        Check.illegal("what -1", () -> x.better(1, -1));
        Check.illegal("n 0", () -> x.better(0, 0));
        Check.illegal("n 101", () -> x.better(101, 0));
    }

    /** Promise 34. */
    private static void wanteds() {
        WallClocks x = Check.walled("board 5;clock 0 0 103 1 2 0;");
        Check.due("near", "5 2", () -> x.wanted(0, 52, 10, 0) + " " + x.wanted(0, 52, 10, 1));
        Check.due("alike near: the least", "5 5", () -> x.wanted(0, 55, 10, 0) + " " + x.wanted(0, 55, 10, 1));
        Check.due("below 0, alike near", "-6 5", () -> x.wanted(0, -55, 10, 0) + " " + x.wanted(0, -55, 10, 1));
        Check.due("far above", "100 99899", () -> x.wanted(0, 99_999, 1, 0) + " " + x.wanted(0, 99_999, 1, 1));
        Check.due("far below", "-100 99899", () -> x.wanted(0, -99_999, 1, 0) + " " + x.wanted(0, -99_999, 1, 1));
        Check.due("its rate stays", 3, () -> x.clock(0, 2));
        Check.illegal("off above", () -> x.wanted(0, 100_000, 1, 0));
        Check.illegal("off below", () -> x.wanted(0, -100_000, 1, 0));
        Check.illegal("VOID", () -> x.wanted(0, VOID, 1, 0));
        Check.illegal("n 0", () -> x.wanted(0, 0, 0, 0));
        Check.illegal("n 101", () -> x.wanted(0, 0, 101, 0));
        Check.illegal("what 2", () -> x.wanted(0, 0, 1, 2));
        Check.noSuch("wanted of none", () -> x.wanted(1, 100_000, 1, 0));
    }

    /** Promise 35. */
    private static void sales() {
        WallClocks x = Check.walled(HELD);
        Check.due("on the fourth day", 4, () -> x.sale(1, 10));
        Check.due("just so far", 4, () -> x.sale(1, 4));
        Check.due("not so far", NONE, () -> x.sale(1, 3));
        Check.due("never", NONE, () -> x.sale(0, 100));
        x.days(4);
        Check.due("from now on", 2, () -> x.sale(1, 100));
        WallClocks slow = Check.walled("board 9;clock 0 0 110 1 3 0;clock 0 1 110 1 2 0;right 30;damp 2 3;");
        Check.due("stopped on six days, one of them damp", "4 0", () -> slow.sale(1, 9) + " " + slow.off(1, 6));
        Check.due("until it is wrong there too", "true false", () -> slow.fraud(1, 9) + " " + slow.fraud(1, 10));
        Check.illegal("n 0", () -> x.sale(1, 0));
        Check.illegal("n 101", () -> x.sale(1, 101));
        Check.noSuch("sale of none", () -> x.sale(2, 0));
    }

    /** Promise 36. */
    private static void honestOnes() {
        WallClocks x = Check.walled(HELD);
        Check.due("both", 3, () -> x.honest(3));
        Check.due("the leading one", 1, () -> x.honest(4));
        WallClocks back = Check.walled("board 5;clock 0 0 110 1 0 0;damp 2 25;right 15;");
        Check.due("one day", 1, () -> back.honest(1));
        Check.due("on each day", 0, () -> back.honest(3));
        Check.due("it would be right on that day", 5, () -> back.off(0, 3));
        back.days(2);
        Check.due("from now on", "1 1 0", () -> back.honest(1) + " " + back.honest(2) + " " + back.honest(3));
        Check.illegal("n 0", () -> x.honest(0));
        Check.illegal("n 101", () -> x.honest(101));
    }

    /** Promise 37. */
    private static void boundSets() {
        String text = "board 5;board 5;clock 0 0 100 10 0 0;clock 0 1 100 10 0 0;clock 1 0 100 1 0 0;clock 1 19 100 1 0 0;clock 0 2 100 10 2 0;"
                + "clock 0 3 100 10 1 0;hook 1 1;";
        WallClocks x = Check.walled(text);
        Check.due("too far to hear, and a deaf one", 4, x::bound);
        Check.due("over boards, one way", 3, () -> Check.walled(text + "hears 2 0 1;").bound());
        Check.due("the other way", 3, () -> Check.walled(text + "hears 0 2 1;").bound());
        Check.due("a deaf one is alone", 4, () -> Check.walled(text + "hears 4 0 9;hears 0 4 9;").bound());
        Check.due("a leading one hears nobody", 4, () -> Check.walled(text + "hears 5 2 9;").bound());
        Check.due("but is heard", 3, () -> Check.walled(text + "hears 2 5 9;").bound());
        x.hang(3, 0);
        Check.due("as they hang now", 3, x::bound);
    }

    /** Promise 38; the draws of seed 1 are 6, 6, 1 and 3. */
    private static void winterOffs() {
        WallClocks x = Check.walled("board 5;clock 0 0 100 1 2 0;clock 0 1 100 1 2 0;damp 1 10;key 1 30;");
        Check.due("one day", -6, () -> x.winter(0, 1, 1));
        Check.due("damp and draw", -22, () -> x.winter(0, 2, 1));
        Check.due("three days", -23, () -> x.winter(0, 3, 1));
        Check.due("four days", -26, () -> x.winter(0, 4, 1));
        Check.due("seed 0", 0, () -> x.winter(0, 1, 0));
        Check.due("a seed below 0", -drawOf(-77), () -> x.winter(0, 1, -77));
        x.days(8);
        Check.due("who does not run is not slower", -10, () -> x.winter(1, 20, 1));
        Check.due("nothing stays changed", -10, () -> x.clock(0, 6));
        Check.illegal("n 0", () -> x.winter(0, 0, 1));
        Check.illegal("n 101", () -> x.winter(0, 101, 1));
        Check.noSuch("winter of none", () -> x.winter(2, 0, 1));
    }

    private static int drawOf(long seed) {
        return (int) Math.floorMod(Math.floorDiv(seed * 1_103_515_245L + 12_345L, 65_536L), 8L);
    }

    /** Promise 39. */
    private static void manyWinters() {
        WallClocks x = Check.walled("board 5;clock 0 0 100 1 2 0;right 4;");
        Check.due("draws 6, 4 and 3", 2, () -> x.winters(0, 1, 1, 3));
        Check.due("draws 0, 6, 4 and 3", 3, () -> x.winters(0, 1, 0, 4));
        Check.due("one", "1 0", () -> x.winters(0, 1, 0, 1) + " " + x.winters(0, 1, 1, 1));
        int wrapped = (drawOf(Integer.MAX_VALUE) <= 4 ? 1 : 0) + (drawOf(Integer.MIN_VALUE) <= 4 ? 1 : 0);
        Check.due("seeds wrap", wrapped, () -> x.winters(0, 1, Integer.MAX_VALUE, 2));
        Check.due("sixty", 60, () -> Check.walled("board 5;clock 0 0 100 1 2 0;").winters(0, 1, 5, 60));
        Check.illegal("many 0", () -> x.winters(0, 1, 1, 0));
        Check.illegal("many 61", () -> x.winters(0, 1, 1, 61));
        Check.illegal("n 0", () -> x.winters(0, 0, 1, 1));
        Check.illegal("n 101", () -> x.winters(0, 101, 1, 1));
        Check.noSuch("winters of none", () -> x.winters(1, 0, 1, 0));
    }

    /** Promises 40 and 41. */
    private static void images() {
        WallClocks x = Check.walled(PAIR);
        x.days(5);
        x.book(0, 7);
        int phase = x.clock(1, 5);
        int off = x.clock(1, 6);
        Check.due("one", 1, x::image);
        x.hang(1, 0);
        x.days(5);
        Check.due("two", 2, x::image);
        Check.due("three", 3, x::image);
        Check.due("no fourth", -1, x::image);
        Check.due("still three", 3, () -> x.count(0));
        x.book(0, 8);
        x.days(3);
        Check.due("two left", 2, x::restore);
        Check.due("day 10", 10, () -> x.told(3));
        Check.due("the book then", 7, () -> x.book(0, 9));
        Check.due("one left", 1, x::restore);
        Check.due("none left", 0, x::restore);
        Check.due("day 5", 5, () -> x.told(3));
        Check.due("phase then", phase, () -> x.clock(1, 5));
        Check.due("off then", off, () -> x.clock(1, 6));
        Check.due("where it hung", 1, () -> x.clock(1, 1));
        Check.due("what was free", 5, () -> x.hook(0, 1));
        Check.due("the book of the first", 7, () -> x.book(0, 7));
        Check.due("there is none", -1, x::restore);
        Check.due("nothing changed by that", 5, () -> x.told(3));
        daysOfAnImage();
    }

    /** The days that an image has behind it are its own, whatever went by in their place since. */
    private static void daysOfAnImage() {
        WallClocks x = Check.walled(PAIR);
        x.days(3);
        int off = x.clock(1, 6);
        x.days(5);
        x.image();
        x.undo(8);
        x.hang(1, 0);
        x.days(8);
        x.restore();
        x.undo(5);
        Check.due("off as it was", off, () -> x.clock(1, 6));
        WallClocks later = Check.walled(PAIR);
        later.days(6);
        later.image();
        later.undo(6);
        later.restore();
        Check.due("days undone are there again", 6, () -> later.undo(7));
        Check.due("to day 0", 0, () -> later.clock(1, 6));
    }

    /** Promise 42. */
    private static void counts() {
        WallClocks x = Check.walled(PAIR);
        x.image();
        x.feed(1, 2, 3, 4, 5);
        Check.due("images", 1, () -> x.count(0));
        Check.due("bytes", 20, () -> x.count(1));
        Check.due("what 2", NONE, () -> x.count(2));
        Check.due("what -1", NONE, () -> x.count(-1));
    }
}
