/** The edges that the document names of what is only tried, of two alone, winters and images (terms 3 and 5, promises 18 to 42), a sentence each. */
public final class QuestionEdgesTest {
    private static final int NONE = WallClocks.NONE;
    private static final int VOID = WallClocks.VOID;
    private static final int MIN = Integer.MIN_VALUE;
    private static final int MAX = Integer.MAX_VALUE;
    /** A leading one that holds a quick one: OFF of clock 1 is 10, 11, 12, 12, ..; alone it would be 10, 20, 30, .. */
    private static final String HELD = "board 1;clock 0 0 100 20 1 0;clock 0 1 110 1 0 0;";
    /** Clock 0 stops all others of board 0 for good; those on board 1 go. */
    private static final String STOPPED = "board 9;board 9;clock 0 0 100 1 3 0;";

    private QuestionEdgesTest() {
    }

    public static void main(String[] args) {
        standings();
        standingOfThoseThatRun();
        pushesByTwentyParts();
        pushesByTheLeastAndTheMost();
        pushesGoRound();
        beginningsOfTwentyPhases();
        awayByE();
        awayOfAll();
        holdByTwentyParts();
        holdOfTheFewest();
        holdOfNoneAndAll();
        hungOnTheFirstAndTheLastHook();
        hungOnLeastWeight();
        ownToSoManyParts();
        lookOnTheFirstAndTheLastDay();
        bookOfEach();
        infectedExactly();
        fraudByE();
        staysOfAllAndNone();
        drawnRound();
        twoAreAlone();
        comesOfAHundred();
        leaders();
        betterByOne();
        wantedAtTheLimits();
        saleOnTheFirstAndTheLastDay();
        honestByE();
        boundFromNoneToAll();
        draws();
        wintersOfSeedsThatWrap();
        imagesAreFull();
        imageHasAll();
        restoreLeavesTheRest();
        behindTheLastDay();
        stoppedBehindTheLastDay();
        Check.end();
    }

    /** Clocks on one board that hear nobody and are not heard, with these rates and phases by turns. */
    private static String deaf(int... ratesAndPhases) {
        StringBuilder text = new StringBuilder("board 9;");
        for (int i = 0; i < ratesAndPhases.length; i += 2) {
            text.append("clock 0 ").append(i / 2).append(' ').append(ratesAndPhases[i] + 100).append(" 1 2 ").append(ratesAndPhases[i + 1]).append(';');
        }
        return text.toString();
    }

    /** Clocks that are no deaf ones, but too light to be heard. */
    private static String light(int... ratesAndPhases) {
        return deaf(ratesAndPhases).replace(" 1 2 ", " 1 0 ");
    }

    // ---- standing

    /** "are APART just as now". */
    private static void standings() {
        WallClocks x = Check.walled(deaf(0, 0, 1, 0));
        Check.due("one part otherwise", false, () -> x.standing(1));
        Check.due("a hundred parts otherwise", false, () -> x.standing(100));
        WallClocks round = Check.walled(deaf(0, 0, 10, 700));
        Check.due("99 days: ten parts are missing to a beat", false, () -> round.standing(99));
        Check.due("100 days: a whole beat", true, () -> round.standing(100));
        Check.due("half a beat apart stays", true, () -> Check.walled(deaf(7, 0, 7, 500)).standing(100));
        Check.due("one alone", true, () -> Check.walled(deaf(100, 0)).standing(1));
        Check.due("none", true, () -> Check.walled("").standing(1));
        Check.due("the third goes otherwise", false, () -> Check.walled(deaf(5, 0, 5, 0, 4, 0)).standing(1));
        Check.due("the first goes otherwise", false, () -> Check.walled(deaf(4, 0, 5, 0, 5, 0)).standing(1));
        Check.due("all eight alike", true, () -> Check.walled(deaf(5, 0, 5, 10, 5, 20, 5, 30, 5, 40, 5, 50, 5, 60, 5, 70)).standing(100));
        Check.due("the eighth goes otherwise", false, () -> Check.walled(deaf(5, 0, 5, 10, 5, 20, 5, 30, 5, 40, 5, 50, 5, 60, 6, 70)).standing(1));
        x.days(50);
        Check.due("as now, not as at first", false, () -> x.standing(1));
    }

    /** "all that RUN then", "from the first of them". */
    private static void standingOfThoseThatRun() {
        WallClocks none = Check.walled(deaf(0, 0, 1, 0) + "key 0 30;key 1 30;");
        Check.due("on day 7 both run", false, () -> none.standing(7));
        Check.due("on day 8 none runs", true, () -> none.standing(8));
        Check.due("on day 29 none runs", true, () -> none.standing(29));
        Check.due("on day 30 both run", false, () -> none.standing(30));
        WallClocks one = Check.walled(deaf(0, 0, 1, 0) + "key 0 30;");
        Check.due("on day 8 one runs", true, () -> one.standing(8));
        WallClocks last = Check.walled(deaf(9, 0, 1, 0, 1, 5) + "key 0 9;");
        Check.due("from the second, which is the first that runs on day 8", true, () -> last.standing(8));
        Check.due("from the first on day 9", false, () -> last.standing(9));
        Check.due("who is stopped runs all the same", false, () -> Check.walled("board 9;clock 0 0 101 1 3 0;clock 0 1 101 1 2 500;").standing(1));
    }

    // ---- pushed

    /** "all pairs that are IN STEP now (and no others) are IN STEP n DAYS on". */
    private static void pushesByTwentyParts() {
        Check.due("in step by 20: half of the pushes part them", 2, () -> Check.walled(deaf(0, 0, 0, 20)).pushed(1, 1));
        Check.due("not in step by 21: half of the pushes bring them in step", 2, () -> Check.walled(deaf(0, 0, 0, 21)).pushed(1, 1));
        Check.due("by 22: none does", 4, () -> Check.walled(deaf(0, 0, 0, 22)).pushed(1, 1));
        Check.due("by 19: none parts them", 4, () -> Check.walled(deaf(0, 0, 0, 19)).pushed(1, 1));
        Check.due("they part by themselves", 0, () -> Check.walled(deaf(0, 0, 1, 0)).pushed(1, 22));
        Check.due("they come in step by themselves", 0, () -> Check.walled(deaf(0, 0, 1, 900)).pushed(1, 100));
        Check.due("one pair stays, another is none", 6, () -> Check.walled(deaf(0, 0, 0, 10, 0, 500)).pushed(5, 100));
        Check.due("counter-beat is none", 4, () -> Check.walled(deaf(0, 0, 0, 500)).pushed(200, 1));
        Check.due("another pair in its place: the third goes from the first to the second", 0, () -> Check.walled(deaf(0, 0, 0, 100, 10, 0)).pushed(1, 10));
        Check.due("the first goes from the second to the third", 0, () -> Check.walled(deaf(10, 0, 0, 0, 0, 100)).pushed(1, 10));
        Check.due("the second goes from the first to the third", 0, () -> Check.walled(deaf(0, 0, 10, 0, 0, 100)).pushed(1, 10));
        Check.due("round to the first again", 6, () -> Check.walled(deaf(0, 0, 0, 100, 10, 0)).pushed(1, 100));
    }

    /** "by m (1 to 200), and by -m". */
    private static void pushesByTheLeastAndTheMost() {
        Check.due("200, to 19", 2, () -> Check.walled(deaf(0, 0, 0, 219)).pushed(200, 1));
        Check.due("200, to 20", 2, () -> Check.walled(deaf(0, 0, 0, 220)).pushed(200, 1));
        Check.due("200, to 21", 4, () -> Check.walled(deaf(0, 0, 0, 221)).pushed(200, 1));
        Check.due("one clock", 2, () -> Check.walled(deaf(0, 0)).pushed(200, 100));
        Check.due("eight clocks", 16, () -> Check.walled(deaf(0, 0, 0, 100, 0, 200, 0, 300, 0, 400, 0, 500, 0, 600, 0, 700)).pushed(1, 1));
    }

    private static void pushesGoRound() {
        Check.due("below 0 and above 999, by 10", 4, () -> Check.walled(deaf(0, 0, 0, 990)).pushed(10, 1));
        Check.due("by 11", 2, () -> Check.walled(deaf(0, 0, 0, 990)).pushed(11, 1));
        WallClocks cuckoo = Check.walled("board 9;clock 0 0 100 1 3 60;clock 0 1 110 1 2 60;");
        Check.due("a cuckoo pushed to 49 stops its board", 3, () -> cuckoo.pushed(11, 3));
        Check.due("pushed to 50 it does not", 2, () -> cuckoo.pushed(10, 3));
    }

    // ---- beginnings

    private static String begun(int other) {
        return begun(Check.walled(deaf(0, 333, 0, other)), 1);
    }

    private static String begun(WallClocks x, int n) {
        return x.beginnings(0, 1, n, 0) + " " + x.beginnings(0, 1, n, 1) + " " + x.beginnings(0, 1, n, 2);
    }

    /** "of a CLOCK's PHASES 0, 50, .. 950". */
    private static void beginningsOfTwentyPhases() {
        Check.due("at 0", "1 1 18", () -> begun(0));
        Check.due("at 20", "1 1 18", () -> begun(20));
        Check.due("at 21", "0 0 20", () -> begun(21));
        Check.due("at 29", "0 0 20", () -> begun(29));
        Check.due("at 30", "1 1 18", () -> begun(30));
        Check.due("at 970", "1 1 18", () -> begun(970));
        Check.due("at 971", "0 0 20", () -> begun(971));
        Check.due("at 979", "0 0 20", () -> begun(979));
        Check.due("at 980", "1 1 18", () -> begun(980));
        Check.due("at 999", "1 1 18", () -> begun(999));
        WallClocks cuckoo = Check.walled("board 9;clock 0 0 100 1 3 500;clock 0 1 130 1 2 999;");
        Check.due("from 0 a cuckoo stops the other one", "1 0 19", () -> begun(cuckoo, 1));
        WallClocks later = Check.walled(deaf(0, 0, 1, 10));
        later.days(9);
        Check.due("others as now: at 20 one day on", "1 1 18", () -> begun(later, 1));
        Check.due("at 21 two days on", "0 0 20", () -> begun(later, 2));
        Check.due("at 119 a hundred days on", "1 1 18", () -> begun(later, 100));
    }

    // ---- away, hold

    /** "the others that were RIGHT n DAYS on with it, and are not without it". */
    private static void awayByE() {
        Check.due("11 within 11, 20 is not", 2, () -> Check.walled(HELD + "right 11;").away(0, 2));
        Check.due("11 is not within 10", 0, () -> Check.walled(HELD + "right 10;").away(0, 2));
        Check.due("20 is within 20", 0, () -> Check.walled(HELD + "right 20;").away(0, 2));
        Check.due("20 is not within 19", 2, () -> Check.walled(HELD + "right 19;").away(0, 2));
        Check.due("below 0 too", 2, () -> Check.walled(HELD.replace("110", "90") + "right 11;").away(0, 2));
        Check.due("below 0, not within 10", 0, () -> Check.walled(HELD.replace("110", "90") + "right 10;").away(0, 2));
    }

    private static void awayOfAll() {
        Check.due("one alone", 0, () -> Check.walled(deaf(100, 0)).away(0, 1));
        String seven = deaf(100, 0, 100, 0, 100, 0, 100, 0, 100, 0, 100, 0, 100, 0, 100, 0);
        Check.due("seven fall out without the first", 254, () -> Check.walled(seven.replace("clock 0 0 200 1 2", "clock 0 0 100 1 3")).away(0, 1));
        Check.due("seven fall out without the last", 127, () -> Check.walled(seven.replace("clock 0 7 200 1 2", "clock 0 7 100 1 3")).away(7, 1));
        Check.due("who comes right without it does not count", 0, () -> Check.walled("board 1;clock 0 0 200 20 1 100;clock 0 1 100 1 0 0;right 20;").away(0, 1));
    }

    /** "are IN STEP with one of these n DAYS on". */
    private static void holdByTwentyParts() {
        Check.due("20 apart", 1, () -> Check.walled(light(0, 0, 0, 20) + "sound 0;").hold(1));
        Check.due("21 apart", NONE, () -> Check.walled(light(0, 0, 0, 21) + "sound 0;").hold(1));
        Check.due("20 apart, round", 1, () -> Check.walled(light(0, 990, 0, 10) + "sound 0;").hold(1));
        Check.due("21 apart, round", NONE, () -> Check.walled(light(0, 990, 0, 11) + "sound 0;").hold(1));
        WallClocks slow = Check.walled(light(0, 0, 1, 0) + "sound 0;");
        Check.due("20 days on", 1, () -> slow.hold(20));
        Check.due("21 days on", NONE, () -> slow.hold(21));
        Check.due("100 days on", NONE, () -> slow.hold(100));
        Check.due("counter-beat holds nobody", NONE, () -> Check.walled(light(0, 0, 0, 500) + "sound 0;").hold(1));
    }

    /** "the fewest SOUND ones, one at least"; "of such sets the least (bits)". */
    private static void holdOfTheFewest() {
        Check.due("two of two", 3, () -> Check.walled(light(0, 980, 0, 60, 0, 0, 0, 40) + "sound 0;sound 1;").hold(1));
        Check.due("one of three, though two are a lesser number", 4,
                () -> Check.walled(light(0, 980, 0, 60, 0, 20, 0, 0, 0, 40) + "sound 0;sound 1;sound 2;").hold(1));
        Check.due("alike: the least", 2, () -> Check.walled(light(0, 0, 0, 0, 0, 0) + "sound 2;sound 1;").hold(1));
        String pairs = light(0, 0, 0, 200, 0, 400, 0, 600, 0, 0, 0, 200, 0, 400, 0, 600);
        Check.due("all four of four", 15, () -> Check.walled(pairs + "sound 0;sound 1;sound 2;sound 3;").hold(1));
        Check.due("the last four", 240, () -> Check.walled(pairs + "sound 4;sound 5;sound 6;sound 7;").hold(1));
        Check.due("three of four do not", NONE, () -> Check.walled(pairs + "sound 4;sound 5;sound 6;").hold(1));
        StringBuilder drawn = new StringBuilder(light(0, 0, 0, 0, 0, 0, 0, 0, 0, 0, 0, 0, 0, 0, 0, 100));
        for (int i = 0; i < 7; i++) {
            drawn.append("sound ").append(i).append(";hears 7 ").append(i).append(" 12;");
        }
        Check.due("only all seven draw the eighth near enough", 127, () -> Check.walled(drawn.toString()).hold(1));
        Check.due("by 14 each six do, the first six", 63, () -> Check.walled(drawn.toString().replace(" 12;", " 14;")).hold(1));
        Check.due("the last holds all", 128, () -> Check.walled(light(0, 5, 0, 5, 0, 5, 0, 5, 0, 5, 0, 5, 0, 5, 0, 5) + "sound 7;").hold(100));
    }

    /** "all that are left, but these and deaf ones"; "NONE: no set does (also of no SOUND ones)". */
    private static void holdOfNoneAndAll() {
        Check.due("no sound ones", NONE, () -> Check.walled(light(0, 0, 0, 0)).hold(1));
        Check.due("no sound ones, all deaf", NONE, () -> Check.walled(deaf(0, 0, 0, 0)).hold(1));
        Check.due("no clocks", NONE, () -> Check.walled("board 1;").hold(1));
        Check.due("one alone", 1, () -> Check.walled(light(0, 0) + "sound 0;").hold(1));
        StringBuilder all = new StringBuilder(light(0, 0, 0, 100, 0, 200, 0, 300, 0, 400, 0, 500, 0, 600, 0, 700));
        for (int i = 0; i < 8; i++) {
            all.append("sound ").append(i).append(';');
        }
        Check.due("all eight are sound: others are taken down, the first is left", 1, () -> Check.walled(all.toString()).hold(1));
        Check.due("deaf ones need no hold", 4, () -> Check.walled(deaf(0, 0, 0, 500) + "clock 0 5 100 1 0 250;sound 2;").hold(1));
        Check.due("a deaf sound one holds others", 1, () -> Check.walled(deaf(0, 0) + "clock 0 5 100 1 0 7;sound 0;").hold(1));
        Check.due("a cuckoo that is sound, but not among these, stops nobody", 2,
                () -> Check.walled("board 9;clock 0 0 100 1 3 0;clock 0 1 100 1 0 500;clock 0 2 120 1 0 460;sound 0;sound 1;").hold(2));
        String cuckoo = "board 9;board 9;clock 0 0 100 1 3 30;clock 1 0 100 1 0 30;clock 0 1 125 1 0 30;sound 1;";
        Check.due("a cuckoo that is left stops its board", 2, () -> Check.walled(cuckoo).hold(1));
        Check.due("at 60 it does not", NONE, () -> Check.walled(cuckoo.replace(" 30;", " 60;")).hold(1));
    }

    // ---- hung

    /** "the first way (CLOCK by CLOCK, by number, the least HOOK)"; "1 more each". */
    private static void hungOnTheFirstAndTheLastHook() {
        String last = STOPPED + "clock 1 0 110 1 2 0;hook 1 1;hook 1 2;hook 1 3;hook 1 4;hook 1 5;hook 0 1;right 9;";
        Check.due("the sixth hook alone does", "6 6 2", () -> ways(Check.walled(last), 2, 1));
        String first = STOPPED + "clock 1 0 110 1 2 0;hook 0 1;hook 1 2;hook 1 3;hook 1 4;hook 1 5;hook 1 6;right 9;";
        Check.due("the first hook alone does", "1 1 2", () -> ways(Check.walled(first), 2, 1));
        Check.due("one hook is enough for one", "1 1 2", () -> ways(Check.walled(STOPPED + "clock 1 0 110 1 2 0;hook 0 1;right 9;"), 2, 1));
        Check.due("one hook of the wrong board", "-1 -1 -1", () -> ways(Check.walled(STOPPED + "clock 1 0 110 1 2 0;hook 1 1;right 9;"), 2, 1));
        Check.due("within 10 every hook does", "1 2 1", () -> ways(Check.walled(first.replace("right 9", "right 10")), 2, 1));
        Check.due("not on the second day", "1 1 2", () -> ways(Check.walled(first.replace("right 9", "right 10")), 2, 2));
        String four = STOPPED + "clock 1 0 110 1 2 0;clock 1 1 110 2 2 0;clock 1 2 110 3 2 0;clock 1 3 110 4 2 0;"
                + "hook 1 4;hook 1 5;hook 0 1;hook 0 2;hook 0 3;hook 0 4;right 9;";
        Check.due("four on the last four", "3456 3456 11", () -> ways(Check.walled(four), 30, 1));
        Check.due("three on the first of them", "345 345 7", () -> ways(Check.walled(four), 14, 1));
        Check.due("two that are not neighbours by number", "34 34 6", () -> ways(Check.walled(four), 18, 1));
        Check.due("fewer hooks than clocks", "-1 -1 -1", () -> ways(Check.walled(four.replace("hook 0 4;", "").replace("hook 1 5;", "").replace("hook 1 4;", "")), 30, 1));
        Check.due("as many hooks as clocks, one of them on the wrong board", "-1 -1 -1",
                () -> ways(Check.walled(four.replace("hook 0 4;", "").replace("hook 1 5;", "")), 30, 1));
        WallClocks eight = Check.walled(deaf(0, 0, 0, 0, 0, 0, 0, 0, 0, 0, 0, 0, 0, 0, 0, 0) + "hook 0 10;hook 0 11;hook 0 12;hook 0 13;hook 0 14;hook 0 15;");
        Check.due("the last four of eight", "1234 1234 8", () -> ways(eight, 240, 100));
        String near = "board 1;clock 0 0 100 20 1 0;clock 0 19 110 1 0 0;hook 0 18;hook 0 1;hook 0 2;right 20;";
        Check.due("on the same board, but near enough", "2 2 21", () -> ways(Check.walled(near), 2, 10));
        WallClocks swapped = Check.walled("board 9;board 9;board 9;clock 0 0 100 1 3 0;clock 1 0 110 1 2 0;clock 2 0 100 20 1 0;clock 1 1 120 1 0 0;"
                + "hook 2 1;hook 0 1;right 19;hears 3 2 99;");
        Check.due("the first clock on the second hook", 21, () -> swapped.hung(10, 2, 0));
        Check.due("both hang as before", "1 0 1 1", () -> swapped.clock(1, 0) + " " + swapped.clock(1, 1) + " " + swapped.clock(3, 0) + " " + swapped.clock(3, 1));
    }

    private static String ways(WallClocks x, int clocks, int n) {
        return x.hung(clocks, n, 0) + " " + x.hung(clocks, n, 1) + " " + x.hung(clocks, n, 2);
    }

    /** "by which the most weight hangs on a BOARD least among these (of alike ones the first)". */
    private static void hungOnLeastWeight() {
        String text = "board 9;board 9;board 9;clock 0 0 100 5 2 0;clock 0 1 100 7 2 0;clock 1 0 100 9 4 0;hook 1 1;hook 0 2;hook 2 1;";
        WallClocks x = Check.walled(text);
        Check.due("one: to the third board", "1 3 9", () -> ways(x, 1, 1));
        Check.due("the other one likewise", "1 3 9", () -> ways(x, 2, 1));
        Check.due("the heavy one weighs once", "1 1 12", () -> ways(x, 4, 1));
        Check.due("two: the heavier one to the third board", "12 23 9", () -> ways(x, 3, 1));
        Check.due("all three: one to a board, whatever the way", "123 123 9", () -> ways(x, 7, 1));
    }

    // ---- rates

    private static String own(WallClocks x, int off, int d, int n) {
        return x.own(0, off, d, n, 0) + " " + x.own(0, off, d, n, 1) + " " + x.own(0, off, d, n, 2);
    }

    /** "to d parts": 0 to 999; "RATES (-100 to 100)". */
    private static void ownToSoManyParts() {
        WallClocks x = Check.walled(deaf(3, 0));
        String none = "0 " + VOID + " " + VOID;
        Check.due("exactly", "1 7 7", () -> own(x, 7, 0, 1));
        Check.due("the least rate", "1 -100 -100", () -> own(x, -100, 0, 1));
        Check.due("the greatest rate", "1 100 100", () -> own(x, 100, 0, 1));
        Check.due("below the least", none, () -> own(x, -101, 0, 1));
        Check.due("above the greatest", none, () -> own(x, 101, 0, 1));
        Check.due("above, to 1", "1 100 100", () -> own(x, 101, 1, 1));
        Check.due("to 999 from above", "1 100 100", () -> own(x, 1099, 999, 1));
        Check.due("beyond 999 from above", none, () -> own(x, 1100, 999, 1));
        Check.due("to 999 from below", "1 -100 -100", () -> own(x, -1099, 999, 1));
        Check.due("beyond 999 from below", none, () -> own(x, -1100, 999, 1));
        Check.due("all", "201 -100 100", () -> own(x, 0, 100, 1));
        Check.due("all but two", "199 -99 99", () -> own(x, 0, 99, 1));
        Check.due("a hundred days on", "1 100 100", () -> own(x, 10_000, 0, 100));
        Check.due("a hundred days on, to 99", none, () -> own(x, 10_100, 99, 100));
        Check.due("the greatest OFF told", none, () -> own(x, 99_999, 999, 100));
        Check.due("the least OFF told", none, () -> own(x, -99_999, 999, 100));
        x.days(8);
        WallClocks still = Check.walled(deaf(3, 0) + "key 0 30;");
        still.days(8);
        Check.due("while it stands still all do or none", "201 -100 100, " + none, () -> own(still, 24, 0, 22) + ", " + own(still, 25, 0, 22));
    }

    private static String look(WallClocks x, int clock, int n) {
        return x.look(clock, n, 0) + " " + x.look(clock, n, 1);
    }

    /** "the DAY (1 to n on) on which its OFF is another one for most RATES". */
    private static void lookOnTheFirstAndTheLastDay() {
        Check.due("the first", "1 201", () -> look(Check.walled(deaf(0, 0)), 0, 1));
        Check.due("the first of a hundred", "1 201", () -> look(Check.walled(deaf(0, 0)), 0, 100));
        WallClocks late = Check.walled("board 9;clock 0 0 100 1 3 10;clock 0 1 100 1 2 0;damp 98 11;");
        Check.due("the last of a hundred", "100 201", () -> look(late, 1, 100));
        Check.due("not among 99", "1 1", () -> look(late, 1, 99));
        Check.due("not on one", "1 1", () -> look(late, 1, 1));
        WallClocks keyed = Check.walled(deaf(0, 0) + "key 0 30;");
        keyed.days(8);
        Check.due("wound on the 23rd day on", "23 201", () -> look(keyed, 0, 23));
        Check.due("not among 22", "1 1", () -> look(keyed, 0, 22));
        keyed.days(392);
        Check.due("behind the 400th day: day 420", "21 201", () -> look(keyed, 0, 100));
    }

    /** "-99,999 to 99,999; VOID: nothing, as at first". */
    private static void bookOfEach() {
        WallClocks x = Check.walled(deaf(0, 0, 0, 0, 0, 0, 0, 0, 0, 0, 0, 0, 0, 0, 0, 0));
        for (int clock = 0; clock < 8; clock++) {
            int of = clock;
            Check.due("nothing at first of " + clock, VOID, () -> x.book(of, of));
        }
        for (int clock = 0; clock < 8; clock++) {
            int of = clock;
            Check.due("its own of " + clock, of, () -> x.book(of, VOID));
            Check.due("nothing again of " + clock, VOID, () -> x.book(of, VOID));
        }
        Check.due("the limits", VOID + " 99999 -99999 0", () -> x.book(7, 99_999) + " " + x.book(7, -99_999) + " " + x.book(7, 0) + " " + x.book(7, VOID));
        for (int off : new int[] {100_000, -100_000, MAX, MIN + 1}) {
            Check.illegal("book " + off, () -> x.book(7, off));
        }
        Check.due("refused ones leave it", VOID, () -> x.book(7, VOID));
    }

    /** "(exactly)"; "some other RATE explains all that is told". */
    private static void infectedExactly() {
        WallClocks x = Check.walled(deaf(0, 0, 0, 0, 0, 0, 0, 0, 0, 0, 0, 0, 0, 0, 0, 0));
        Check.due("nothing told: all eight", 255, () -> x.infected(1));
        x.book(7, 10_000);
        Check.due("the greatest rate, a hundred days on", 128, () -> x.infected(100));
        x.book(7, 10_001);
        Check.due("one part more", 0, () -> x.infected(100));
        x.book(7, -10_000);
        Check.due("the least rate", 128, () -> x.infected(100));
        x.book(7, -10_100);
        Check.due("a rate below it", 0, () -> x.infected(100));
        x.book(7, 0);
        Check.due("as it is: all others", 127, () -> x.infected(100));
        for (int clock = 0; clock < 7; clock++) {
            x.book(clock, 0);
        }
        Check.due("all as it is: nobody", 0, () -> x.infected(100));
        x.book(3, VOID);
        Check.due("all but one as it is: that one", 8, () -> x.infected(100));
        x.book(3, 1);
        Check.due("one day on", 8, () -> x.infected(1));
        x.book(4, 1);
        Check.due("no one rate explains two", 0, () -> x.infected(1));
        x.book(4, 99_999);
        Check.due("the greatest that can be told", 0, () -> x.infected(1));
        WallClocks still = Check.walled(STOPPED + "clock 0 1 110 1 2 0;");
        still.book(0, 0);
        Check.due("who stands still may have any", 2, () -> still.infected(1));
        still.book(1, 0);
        Check.due("what is told of it, too", 2, () -> still.infected(1));
        still.book(1, 1);
        Check.due("but for another OFF", 0, () -> still.infected(1));
    }

    // ---- fraud, sale, honest

    /** "RIGHT n DAYS on, on the wall, but would not be alone". */
    private static void fraudByE() {
        Check.due("11 within 11, 20 is not", true, () -> Check.walled(HELD + "right 11;").fraud(1, 2));
        Check.due("11 is not within 10", false, () -> Check.walled(HELD + "right 10;").fraud(1, 2));
        Check.due("20 is within 20", false, () -> Check.walled(HELD + "right 20;").fraud(1, 2));
        Check.due("20 is not within 19", true, () -> Check.walled(HELD + "right 19;").fraud(1, 2));
        Check.due("below 0", true, () -> Check.walled(HELD.replace("110", "90") + "right 11;").fraud(1, 2));
        Check.due("below 0, within 20", false, () -> Check.walled(HELD.replace("110", "90") + "right 20;").fraud(1, 2));
        Check.due("a hundred days on", true, () -> Check.walled(HELD + "right 499;").fraud(1, 100));
        Check.due("one alone", false, () -> Check.walled(deaf(100, 0) + "right 0;").fraud(0, 1));
        Check.due("days on which it does not run do not count alone", "true true false false", () -> {
            WallClocks x = Check.walled(STOPPED + "clock 0 1 101 1 2 0;clock 0 2 99 1 2 0;key 1 30;key 2 30;right 7;");
            String first = x.fraud(1, 30) + " " + x.fraud(2, 30) + " ";
            WallClocks y = Check.walled(STOPPED + "clock 0 1 101 1 2 0;clock 0 2 99 1 2 0;key 1 30;key 2 30;right 8;");
            return first + y.fraud(1, 30) + " " + y.fraud(2, 30);
        });
        Check.due("no others anywhere: hears counts nothing", true,
                () -> Check.walled("board 9;board 9;clock 0 0 100 20 1 0;clock 1 0 110 1 0 0;hears 1 0 90;right 15;").fraud(1, 2));
    }

    /** "the first DAY (1 to n on) on which it is RIGHT, and would not be alone". */
    private static void saleOnTheFirstAndTheLastDay() {
        Check.due("the first day", 1, () -> Check.walled(STOPPED + "clock 0 1 110 1 2 0;right 9;").sale(1, 1));
        Check.due("within 10 not the first, but the second", "-1 2", () -> {
            WallClocks x = Check.walled(STOPPED + "clock 0 1 110 1 2 0;right 10;");
            return x.sale(1, 1) + " " + x.sale(1, 2);
        });
        WallClocks slow = Check.walled(STOPPED + "clock 0 1 101 1 2 0;right 99;");
        Check.due("the hundredth", 100, () -> slow.sale(1, 100));
        Check.due("not among 99", NONE, () -> slow.sale(1, 99));
        Check.due("one alone", NONE, () -> Check.walled(deaf(100, 0) + "right 0;").sale(0, 100));
        WallClocks again = Check.walled(deaf(10, 0) + "clock 0 1 100 1 3 980;right 9;damp 2 30;");
        Check.due("not right on the wall", NONE, () -> again.sale(0, 100));
        WallClocks five = Check.walled("board 9;clock 0 0 110 1 3 0;clock 0 1 110 1 2 0;right 45;");
        Check.due("stopped for five days: on the fifth it would be 50 off", "-1 5 5", () -> five.sale(1, 4) + " " + five.sale(1, 5) + " " + five.sale(1, 100));
        five.days(5);
        Check.due("from then on it is right as long as it would be", "-1 -1", () -> five.sale(1, 4) + " " + five.sale(1, 100));
        WallClocks keyed = Check.walled(STOPPED + "clock 0 1 101 1 2 0;clock 0 2 99 1 2 0;key 1 30;key 2 30;right 8;");
        Check.due("it would not run on each day", "31 31 -1 -1", () -> keyed.sale(1, 100) + " " + keyed.sale(2, 100) + " " + keyed.sale(1, 30) + " " + keyed.sale(2, 30));
        slow.days(60);
        Check.due("alone from where it is now", "100 60", () -> slow.sale(1, 100) + " " + slow.told(3));
    }

    /** "each alone, are RIGHT on each DAY of 1 to n on". */
    private static void honestByE() {
        WallClocks x = Check.walled(deaf(1, 0, -1, 0, 0, 0) + "right 99;");
        Check.due("99 days", 7, () -> x.honest(99));
        Check.due("100 days", 4, () -> x.honest(100));
        Check.due("E 0", 4, () -> Check.walled(deaf(1, 0, -1, 0, 0, 0) + "right 0;").honest(1));
        Check.due("it does not run on each day", "3 3 0", () -> {
            WallClocks keyed = Check.walled(deaf(1, 0, -1, 0) + "key 0 30;key 1 30;right 8;");
            return keyed.honest(8) + " " + keyed.honest(30) + " " + keyed.honest(31);
        });
        Check.due("all eight", 255, () -> Check.walled(deaf(0, 0, 0, 0, 0, 0, 0, 0, 0, 0, 0, 0, 0, 0, 0, 0) + "right 0;").honest(100));
        WallClocks first = Check.walled(deaf(10, 0) + "right 9;damp 1 20;");
        Check.due("wrong on the first day alone", "0 0", () -> first.honest(1) + " " + first.honest(2));
        WallClocks last = Check.walled(deaf(0, 0) + "right 49;damp 99 50;");
        Check.due("wrong on the last day alone", "1 0", () -> last.honest(99) + " " + last.honest(100));
        Check.due("as a stopped one would go", 0, () -> Check.walled("board 9;clock 0 0 200 1 3 0;clock 0 1 200 1 2 0;").honest(1));
        Check.due("what it is now does not count", 1, () -> {
            WallClocks now = Check.walled(deaf(10, 0) + "right 9;damp 1 20;");
            now.days(1);
            return now.honest(1);
        });
    }

    // ---- two alone

    private static String stays(String text) {
        WallClocks x = Check.walled(text);
        return x.stays(0, 1, 0) + " " + x.stays(0, 1, 1);
    }

    /** "DELTAS that are the same one DAY on: how many, the first"; "(NONE)". */
    private static void staysOfAllAndNone() {
        Check.due("all thousand", "1000 0", () -> stays(deaf(7, 3, 7, 9)));
        Check.due("none", "0 -1", () -> stays(deaf(7, 3, 8, 9)));
        Check.due("where a cuckoo stops the other one", "50 500", () -> stays("board 9;clock 0 0 101 1 2 0;clock 0 1 100 1 3 0;"));
        String third = "clock 0 2 100 20 3 0;damp 0 50;key 0 9;key 1 30;";
        for (int day : new int[] {0, 8, 400}) {
            WallClocks x = Check.walled(deaf(7, 3, 7, 9) + third);
            WallClocks y = Check.walled("board 9;clock 0 0 101 1 2 0;clock 0 1 100 1 3 0;" + third);
            if (day > 0) {
                x.days(day);
                y.days(day);
            }
            Check.due("a third one, damp and keys count nothing, on day " + day, "1000 0", () -> x.stays(0, 1, 0) + " " + x.stays(0, 1, 1));
            Check.due("nor where a cuckoo stops the other one", "50 500", () -> y.stays(0, 1, 0) + " " + y.stays(0, 1, 1));
        }
        Check.due("HEARING 1: by 99 parts nothing is pulled", "398 0", () -> stays("board 9;board 9;clock 0 0 100 1 1 0;clock 1 0 100 1 0 0;hears 1 0 1;"));
    }

    /** "a DELTA, 0 to 999". */
    private static void drawnRound() {
        WallClocks on = Check.walled(deaf(0, 7, 1, 8));
        Check.due("999 and 1", 0, () -> on.drawn(0, 1, 999, 1));
        Check.due("998 and 1", 999, () -> on.drawn(0, 1, 998, 1));
        Check.due("0 and 1", 1, () -> on.drawn(0, 1, 0, 1));
        Check.due("0 less 1", 999, () -> on.drawn(1, 0, 0, 1));
        Check.due("1 less 1", 0, () -> on.drawn(1, 0, 1, 1));
        Check.due("a hundred days", "100 99 900", () -> on.drawn(0, 1, 0, 100) + " " + on.drawn(0, 1, 999, 100) + " " + on.drawn(1, 0, 0, 100));
        Check.due("twenty beats", 0, () -> Check.walled(deaf(-100, 0, 100, 0)).drawn(0, 1, 0, 100));
    }

    /** "all others taken down; .. from DAY 0 on, no damp, no keys: both RUN always, cuckoos STOP as ever"; "which begins at 500". */
    private static void twoAreAlone() {
        WallClocks x = Check.walled("board 9;clock 0 0 200 1 3 0;clock 0 1 200 1 2 700;clock 0 2 100 1 3 0;damp 0 50;damp 5 50;key 0 30;key 1 9;");
        for (int day : new int[] {0, 8, 400}) {
            x.undo(400);
            if (day > 0) {
                x.days(day);
            }
            Check.due("from 500 to 0 both go alike, on day " + day, 0, () -> x.drawn(0, 1, 0, 5));
            Check.due("at 0 the first one stops the second", 900, () -> x.drawn(0, 1, 0, 6));
            Check.due("at 100 it does not", 900, () -> x.drawn(0, 1, 0, 15));
            Check.due("a beat on it does again", 800, () -> x.drawn(0, 1, 0, 16));
        }
        Check.due("a second one at 999 stops nobody", 499, () -> x.drawn(1, 0, 499, 1));
        Check.due("at 0 it stops the first", 600, () -> x.drawn(1, 0, 500, 1));
        Check.due("at 49 too", 649, () -> x.drawn(1, 0, 549, 1));
        Check.due("at 50 it does not", 550, () -> x.drawn(1, 0, 550, 1));
    }

    private static String comes(WallClocks x, int clock, int other, int n) {
        return x.comes(clock, other, n, 0) + " " + x.comes(clock, other, n, 1) + " " + x.comes(clock, other, n, 2);
    }

    /** "of DELTAS 0, 10, .. 990". */
    private static void comesOfAHundred() {
        Check.due("as they begin", "5 5 90", () -> comes(Check.walled(deaf(3, 0, 3, 500)), 0, 1, 100));
        WallClocks on = Check.walled(deaf(0, 0, 1, 0));
        Check.due("one on: 20 and 520 are out", "4 4 92", () -> comes(on, 0, 1, 1));
        Check.due("one back: 980 and 480 are out", "4 4 92", () -> comes(on, 1, 0, 1));
        Check.due("ten on: as they begin", "5 5 90", () -> comes(on, 0, 1, 10));
        Check.due("a hundred on", "5 5 90", () -> comes(on, 0, 1, 100));
        WallClocks three = Check.walled(deaf(0, 0, 1, 0) + "clock 0 2 100 20 3 0;damp 0 50;key 0 9;key 1 30;");
        for (int day : new int[] {1, 8, 391}) {
            three.days(day);
            Check.due("a third one, damp and keys count nothing, " + day + " days later", "4 4 92", () -> comes(three, 0, 1, 1));
            Check.due("nor twelve days on", comes(Check.walled(deaf(0, 0, 1, 0)), 0, 1, 12), () -> comes(three, 0, 1, 12));
        }
    }

    // ---- leader, better, wanted, bound

    /** "is most otherwise n DAYS on; of these the first, if any is". */
    private static void leaders() {
        Check.due("one alone", NONE, () -> Check.walled(deaf(100, 0)).leader(100));
        Check.due("two that hear nobody", NONE, () -> Check.walled(deaf(100, 0, 50, 0)).leader(100));
        String eight = deaf(1, 60, 1, 60, 1, 60, 1, 60, 1, 60, 1, 60, 1, 60, 0, 60);
        Check.due("nobody stops", NONE, () -> Check.walled(eight.replace("clock 0 7 100 1 2", "clock 0 7 100 1 3")).leader(100));
        Check.due("the last one stops the others", 7, () -> Check.walled(eight.replace("clock 0 7 100 1 2 60", "clock 0 7 100 1 3 0")).leader(1));
        Check.due("alike: the first", 0, () -> Check.walled("board 9;board 9;clock 0 0 100 1 3 0;clock 0 1 110 1 2 0;clock 1 0 100 1 3 0;clock 1 1 90 1 2 0;").leader(1));
        Check.due("more: the second", 2, () -> Check.walled("board 9;board 9;clock 0 0 100 1 3 0;clock 0 1 110 1 2 0;clock 1 0 100 1 3 0;clock 1 1 89 1 2 0;").leader(1));
        Check.due("below and above do not make up for one another", 0,
                () -> Check.walled("board 9;clock 0 0 100 1 3 0;clock 0 1 110 1 2 0;clock 0 2 90 1 2 0;").leader(1));
    }

    /** "if those are more than as they hang; of these the first (CLOCK, then HOOK)". */
    private static void betterByOne() {
        String text = "board 9;board 9;board 9;clock 0 0 100 1 3 0;clock 1 0 100 1 2 0;clock 1 1 100 1 2 0;clock 1 2 100 1 2 0;clock 1 3 100 1 2 0;"
                + "clock 1 4 100 1 2 0;clock 1 5 100 1 2 0;clock 1 6 110 1 2 0;hook 2 0;hook 2 1;hook 2 2;hook 2 3;hook 2 4;hook 0 5;";
        Check.due("the last clock on the last hook", "705 8", () -> better(Check.walled(text + "right 9;"), 1));
        Check.due("within 10 all are right as they hang", "-1 -1", () -> better(Check.walled(text + "right 10;"), 1));
        Check.due("but not on the second day", "705 8", () -> better(Check.walled(text + "right 10;"), 2));
        Check.due("the first hook of all", "700 8", () -> better(Check.walled(text.replace("hook 2 0;", "hook 0 9;") + "right 9;"), 1));
        String near = "board 1;clock 0 0 100 20 1 0;clock 0 19 110 1 0 0;hook 0 10;hook 0 1;hook 0 2;right 20;";
        Check.due("on the same board, but near enough", "101 2", () -> better(Check.walled(near), 10));
        Check.due("the first clock on the first hook", "0 2",
                () -> better(Check.walled("board 1;clock 0 19 110 1 0 0;clock 0 0 100 20 1 0;hook 0 1;right 20;"), 10));
        Check.due("the first of such hooks", "704 8", () -> better(Check.walled(text.replace("hook 2 4;", "hook 0 4;") + "right 9;"), 1));
        Check.due("the first of such clocks", "505 7", () -> better(Check.walled(text.replace("clock 1 4 100", "clock 1 4 110") + "right 9;"), 1));
        Check.due("no hooks", "-1 -1", () -> better(Check.walled(deaf(100, 0)), 1));
        Check.due("no clocks", "-1 -1", () -> better(Check.walled("board 1;hook 0 0;"), 1));
    }

    private static String better(WallClocks x, int n) {
        return x.better(n, 0) + " " + x.better(n, 1);
    }

    private static String wanted(WallClocks x, int off, int n) {
        return x.wanted(0, off, n, 0) + " " + x.wanted(0, off, n, 1);
    }

    /** "the RATE (-100 to 100) by which a CLOCK's OFF is nearest to a told one n DAYS on, of these the least". */
    private static void wantedAtTheLimits() {
        WallClocks x = Check.walled(deaf(3, 0));
        Check.due("100", "100 0", () -> wanted(x, 100, 1));
        Check.due("101", "100 1", () -> wanted(x, 101, 1));
        Check.due("-100", "-100 0", () -> wanted(x, -100, 1));
        Check.due("-101", "-100 1", () -> wanted(x, -101, 1));
        Check.due("99,999", "100 89999", () -> wanted(x, 99_999, 100));
        Check.due("-99,999", "-100 89999", () -> wanted(x, -99_999, 100));
        Check.due("between two, alike far: the least", "0 1", () -> wanted(x, 1, 2));
        Check.due("between two below 0: the least", "-1 1", () -> wanted(x, -1, 2));
        Check.due("nearer to the greater", "1 1", () -> wanted(x, 2, 3));
        WallClocks still = Check.walled(deaf(3, 0) + "key 0 30;");
        still.days(8);
        Check.due("all alike: the least of all", "-100 24", () -> wanted(still, 0, 22));
    }

    /** "of which one hears the other (HEARING above 0), or by others between"; "(deaf ones each alone)". */
    private static void boundFromNoneToAll() {
        Check.due("no clocks", 0, () -> Check.walled("board 1;").bound());
        Check.due("one", 1, () -> Check.walled(light(0, 0)).bound());
        String eight = light(0, 0, 0, 0, 0, 0, 0, 0, 0, 0, 0, 0, 0, 0, 0, 0);
        Check.due("eight that hear nobody", 8, () -> Check.walled(eight).bound());
        Check.due("by 0 more", 8, () -> Check.walled(eight + "hears 0 7 0;").bound());
        Check.due("by 1 more", 7, () -> Check.walled(eight + "hears 0 7 1;").bound());
        Check.due("both ways", 7, () -> Check.walled(eight + "hears 0 7 1;hears 7 0 1;").bound());
        StringBuilder chain = new StringBuilder(eight);
        int[] order = {3, 7, 0, 5, 2, 6, 1, 4};
        for (int i = 1; i < 8; i++) {
            chain.append("hears ").append(order[i - i % 2]).append(' ').append(order[i - 1 + i % 2]).append(" 1;");
        }
        Check.due("a chain of eight", 1, () -> Check.walled(chain.toString()).bound());
        Check.due("eight on a thin board", 1, () -> Check.walled(eight.replace("board 9", "board 1").replace(" 1 0 0;", " 20 0 0;")).bound());
        Check.due("eight deaf ones", 8, () -> Check.walled(eight.replace("board 9", "board 1").replace(" 1 0 0;", " 20 2 0;")).bound());
        Check.due("eight leading ones", 8, () -> Check.walled(eight.replace("board 9", "board 1").replace(" 1 0 0;", " 20 1 0;")).bound());
        Check.due("a deaf one between binds nobody", 3, () -> Check.walled(light(0, 0) + "clock 0 5 100 1 2 0;clock 0 9 100 1 0 0;hears 0 1 9;hears 1 2 9;").bound());
        Check.due("a leading one between does", 1, () -> Check.walled(light(0, 0) + "clock 0 5 100 1 1 0;clock 0 9 100 1 0 0;hears 0 1 9;hears 2 1 9;").bound());
        Check.due("whether it runs or not", 1, () -> {
            WallClocks x = Check.walled(light(0, 0, 0, 0) + "hears 0 1 1;key 0 30;key 1 30;");
            x.days(8);
            return x.bound();
        });
    }

    // ---- winters

    private static int[] drawsOf(long seed, int n) {
        int[] draws = new int[n];
        long drawn = seed;
        for (int k = 0; k < n; k++) {
            drawn = Math.floorMod(drawn * 1_103_515_245L + 12_345L, 1L << 32);
            draws[k] = (int) (drawn >> 16 & 7);
        }
        return draws;
    }

    private static int sumOf(int[] draws) {
        int sum = 0;
        for (int drawn : draws) {
            sum += drawn;
        }
        return sum;
    }

    private static int seedThatDraws(int due) {
        int seed = 0;
        while (drawsOf(seed, 1)[0] != due) {
            seed++;
        }
        return seed;
    }

    /** "a DRAW below 8 more: the SEED (32 bits) becomes itself times 1,103,515,245, and 12,345 (it wraps); its bits 16 to 18". */
    private static void draws() {
        WallClocks x = Check.walled(deaf(0, 0, 0, 0) + "damp 0 50;key 1 9;");
        for (int due = 0; due < 8; due++) {
            int seed = seedThatDraws(due);
            Check.due("a draw of " + due + ", and damp", -50 - due, () -> x.winter(0, 1, seed));
        }
        for (int seed : new int[] {MIN, MIN + 1, -65_537, -1, 0, 1, 65_535, 65_536, 0x70000, MAX - 1, MAX}) {
            Check.due("one day of seed " + seed, -50 - sumOf(drawsOf(seed, 1)), () -> x.winter(0, 1, seed));
            Check.due("two days of seed " + seed, -50 - sumOf(drawsOf(seed, 2)), () -> x.winter(0, 2, seed));
            Check.due("a hundred days of seed " + seed, -50 - sumOf(drawsOf(seed, 100)), () -> x.winter(0, 100, seed));
            int[] nine = drawsOf(seed, 9);
            Check.due("a day on which it does not run is drawn too, seed " + seed, -50 - sumOf(drawsOf(seed, 10)) + nine[8], () -> x.winter(1, 10, seed));
        }
        x.days(400);
        Check.due("behind the 400th", -50 - sumOf(drawsOf(5, 100)), () -> x.winter(0, 100, 5));
    }

    /** "Of so many (1 to 60) SEEDS, seed, seed and 1, .. (wrapping)". */
    private static void wintersOfSeedsThatWrap() {
        for (int within : new int[] {0, 3, 7}) {
            WallClocks x = Check.walled(deaf(0, 0) + "right " + within + ";");
            for (int many : new int[] {1, 2, 59, 60}) {
                for (int seed : new int[] {MIN, -1, -30, 0, 77, MAX - 59, MAX - 58, MAX - 1, MAX}) {
                    int due = 0;
                    for (int k = 0; k < many; k++) {
                        due += drawsOf(seed + k, 1)[0] <= within ? 1 : 0;
                    }
                    int rights = due;
                    Check.due(many + " winters from " + seed + ", within " + within, rights, () -> x.winters(0, 1, seed, many));
                }
            }
        }
        WallClocks slow = Check.walled(deaf(0, 0) + "right 349;");
        Check.due("a hundred days", 60 - wrongWinters(349), () -> slow.winters(0, 100, 1, 60));
    }

    private static int wrongWinters(int within) {
        int wrong = 0;
        for (int seed = 1; seed <= 60; seed++) {
            wrong += sumOf(drawsOf(seed, 100)) > within ? 1 : 0;
        }
        return wrong;
    }

    // ---- "from now on, also behind the 400th"

    private static WallClocks onTheLastDay(String text) {
        WallClocks x = Check.walled(text);
        x.days(400);
        return x;
    }

    private static void behindTheLastDay() {
        WallClocks x = onTheLastDay(deaf(1, 0, 0, 0) + "right 499;damp 0 0;");
        Check.due("off", "401 500", () -> x.off(0, 1) + " " + x.off(0, 100));
        Check.due("standing", "false true", () -> x.standing(1) + " " + onTheLastDay(deaf(10, 0, 0, 0)).standing(100));
        Check.due("pushed", "4 0 2", () -> x.pushed(1, 70) + " " + onTheLastDay(deaf(1, 600, 0, 0)).pushed(1, 50) + " " + onTheLastDay(deaf(1, 600, 0, 0)).pushed(10, 15));
        Check.due("beginnings", "1 1 18", () -> x.beginnings(1, 0, 70, 0) + " " + x.beginnings(1, 0, 70, 1) + " " + x.beginnings(1, 0, 70, 2));
        Check.due("own", "1 1 1", () -> own(x, 500, 0, 100));
        Check.due("look", "1 201", () -> look(x, 0, 100));
        Check.due("wanted", "-1 0", () -> wanted(x, 300, 100));
        Check.due("honest", "3 2", () -> x.honest(99) + " " + x.honest(100));
        x.book(0, 600);
        Check.due("infected", 1, () -> x.infected(100));
        WallClocks near = onTheLastDay(light(0, 600, 1, 180) + "sound 0;");
        Check.due("hold", "1 -1", () -> near.hold(40) + " " + near.hold(41));
        Check.due("winters", 60 - wrongWinters(349), () -> onTheLastDay(deaf(0, 0) + "right 349;").winters(0, 100, 1, 60));
        Check.due("two alone", "100 5 1000", () -> x.drawn(1, 0, 0, 100) + " " + x.comes(1, 0, 100, 0) + " " + onTheLastDay(deaf(0, 0, 0, 0)).stays(0, 1, 0));
        Check.due("the day stays", 400, () -> x.told(3));
    }

    private static void stoppedBehindTheLastDay() {
        WallClocks x = onTheLastDay(STOPPED + "clock 0 1 101 1 2 0;hook 1 1;hook 0 2;right 99;");
        Check.due("fraud", "false true", () -> x.fraud(1, 99) + " " + x.fraud(1, 100));
        Check.due("sale", "-1 100", () -> x.sale(1, 99) + " " + x.sale(1, 100));
        Check.due("away", "0 2", () -> x.away(0, 99) + " " + x.away(0, 100));
        Check.due("leader", 0, () -> x.leader(100));
        Check.due("hung", "1 1 1", () -> ways(x, 2, 99));
        Check.due("hung, a day more", "2 2 2", () -> ways(x, 2, 100));
        x.hang(1, 0);
        Check.due("better", "-1 -1", () -> better(x, 99));
        Check.due("better, a day more", "100 2", () -> better(x, 100));
    }

    // ---- images

    /** "how many there are; -1: there are 3"; "how many are left; -1: there is none". */
    private static void imagesAreFull() {
        WallClocks x = Check.walled(deaf(1, 0));
        Check.due("none to restore", "-1 0", () -> x.restore() + " " + x.count(0));
        Check.due("up to three", "1 2 3 -1 -1 3", () -> x.image() + " " + x.image() + " " + x.image() + " " + x.image() + " " + x.image() + " " + x.count(0));
        Check.due("down to none", "2 1 0 -1 -1 0", () -> x.restore() + " " + x.restore() + " " + x.restore() + " " + x.restore() + " " + x.restore() + " "
                + x.count(0));
        x.image();
        x.days(1);
        x.image();
        x.days(1);
        x.image();
        x.days(1);
        x.image();
        Check.due("a fourth is none: the third is the latest", "2 2", () -> x.restore() + " " + x.told(3));
        x.days(7);
        Check.due("room for one again", "3 -1", () -> x.image() + " " + x.image());
        x.days(1);
        Check.due("the latest first", "2 9", () -> x.restore() + " " + x.told(3));
        Check.due("then the second", "1 1", () -> x.restore() + " " + x.told(3));
        Check.due("then the first", "0 0", () -> x.restore() + " " + x.told(3));
    }

    private static String stateWithoutImages(WallClocks x) {
        int images = x.count(0);
        return Check.stateOf(x).replaceAll(" " + images + " (\\S+ \\S+)$", " $1");
    }

    /** "the DAY, PHASES, OFF, where all hang, the BOOK". */
    private static void imageHasAll() {
        WallClocks x = Check.walled("board 1;board 2;clock 0 0 103 20 0 0;clock 0 1 110 1 0 700;clock 1 1 90 1 3 60;hook 1 5;hook 0 7;key 1 9;damp 3 9;");
        String[] states = new String[4];
        for (int k = 0; k < 3; k++) {
            x.days(13);
            x.hang(k, k % 2);
            x.book(k, 100 + k);
            states[k] = stateWithoutImages(x);
            x.image();
        }
        x.book(0, VOID);
        x.hang(0, 1);
        x.undo(39);
        x.days(400);
        x.book(2, -99_999);
        for (int k = 2; k >= 0; k--) {
            int of = k;
            x.restore();
            Check.due("all is as in image " + k, states[of], () -> stateWithoutImages(x));
            x.days(5);
            x.hang(1, 1);
            x.book(1, 7);
        }
        Check.due("none is left", -1, x::restore);
        WallClocks last = Check.walled(deaf(1, 0));
        last.days(400);
        last.image();
        last.undo(400);
        last.restore();
        Check.due("an image of the 400th day", "400 400 0 400 0", () -> last.told(3) + " " + last.clock(0, 6) + " " + last.days(1) + " " + last.undo(400)
                + " " + last.clock(0, 6));
    }

    /** The TAPE and the fault's place are in no IMAGE. */
    private static void restoreLeavesTheRest() {
        WallClocks x = Check.walled(deaf(1, 0));
        x.image();
        Check.read(x, "board 0;");
        Check.feed(x, "right 7;");
        Check.due("restored", 0, x::restore);
        Check.due("the tape stays", 20, () -> x.count(1));
        Check.due("the fault's place stays", 6, x::fault);
        x.image();
        Check.due("another wall", 0, () -> x.wall(8));
        Check.due("has no images", "0 -1", () -> x.count(0) + " " + x.restore());
        Check.due("E is the wall's", 7, () -> x.told(4));
    }
}
