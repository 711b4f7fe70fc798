/** The edges that the document names of a day, of hearing and pull, and of what is asked of today (terms 2, promises 5 to 17), a sentence each. */
public final class DayEdgesTest {
    /** Clock 0 hears clock 1 by 100 and weighs 1, so that PULL is TENDENCY; clock 1 hears nobody. */
    private static final String PLAIN_PULL = "board 5;clock 0 0 100 1 0 %a;clock 0 1 100 20 4 %b;";

    private DayEdgesTest() {
    }

    public static void main(String[] args) {
        fourHundredDays();
        noDaysBehindTheLast();
        daysUndoneToDayZero();
        undoneAsThatDayBegan();
        phasesGoRound();
        greatestWayOfADay();
        apartIsRound();
        runsEightDays();
        keysOfEachLength();
        cuckoosBelowFifty();
        cuckoosAndOthers();
        notHeard();
        hearingIsCut();
        hearingOfKinds();
        tendencyTurns();
        pullIsCutTowardZero();
        pullHasLimits();
        pullOfAllPairs();
        pullByTheLeastHearing();
        allFromThePhasesAsTheDayBegins();
        inStepAndCounterBeat();
        rightToE();
        groupsFromNoneToAll();
        hangOnAndBack();
        toldOfAnEmptyWall();
        Check.end();
    }

    private static String all(WallClocks x, int what) {
        StringBuilder found = new StringBuilder();
        for (int clock = 0; clock < x.told(1); clock++) {
            found.append(clock == 0 ? "" : " ").append(x.clock(clock, what));
        }
        return found.toString();
    }

    // ---- days

    /** "400 at most go by". */
    private static void fourHundredDays() {
        String text = "board 9;clock 0 0 101 1 2 0;";
        WallClocks x = Check.walled(text);
        Check.due("400 at once", "400 400 400", () -> x.days(400) + " " + x.told(3) + " " + x.clock(0, 6));
        WallClocks y = Check.walled(text);
        Check.due("399", 399, () -> y.days(399));
        Check.due("one is left", "1 400", () -> y.days(2) + " " + y.told(3));
        WallClocks z = Check.walled(text);
        Check.due("400 one by one", 400, () -> {
            int gone = 0;
            for (int k = 0; k < 410; k++) {
                gone += z.days(1);
            }
            return gone;
        });
        Check.due("one day", "1 1", () -> {
            WallClocks one = Check.walled(text);
            return one.days(1) + " " + one.told(3);
        });
    }

    /** "none behind the 400th"; yet "from now on, also behind the 400th" are DAYS tried. */
    private static void noDaysBehindTheLast() {
        WallClocks x = Check.walled("board 9;clock 0 0 101 1 2 0;clock 0 1 101 1 2 0;key 1 30;damp 399 50;");
        x.days(400);
        String ahead = Check.stateOf(x);
        Check.due("one more", 0, () -> x.days(1));
        Check.due("400 more", 0, () -> x.days(400));
        Check.due("nothing is changed", ahead, () -> Check.stateOf(x));
        Check.due("one day tried", 351, () -> x.off(0, 1));
        Check.due("a hundred tried", 450, () -> x.off(0, 100));
        Check.due("keys go on: 400 is ten days behind 390", "0 0 0", () -> x.clock(1, 7) + " " + (x.off(1, 1) - x.clock(1, 6)) + " " + (x.off(1, 20) - x.clock(1, 6)));
        Check.due("and are wound on day 420", "1 8 8 9 24", () -> moreOn(x, 21) + " " + moreOn(x, 28) + " " + moreOn(x, 50) + " " + moreOn(x, 51) + " "
                + moreOn(x, 100));
        Check.due("no winter ends there", 450 - drawsOf(7, 100), () -> x.winter(0, 100, 7));
        Check.due("one can be undone", "1 399", () -> x.undo(1) + " " + x.told(3));
        Check.due("and goes by again", "1 400", () -> x.days(9) + " " + x.told(3));
    }

    private static int moreOn(WallClocks x, int n) {
        return x.off(1, n) - x.clock(1, 6);
    }

    private static int drawsOf(int seed, int n) {
        long drawn = seed;
        int sum = 0;
        for (int k = 0; k < n; k++) {
            drawn = (drawn * 1_103_515_245L + 12_345L) & 0xffff_ffffL;
            sum += (int) (drawn / 65_536L % 8L);
        }
        return sum;
    }

    /** "how many (to DAY 0)". */
    private static void daysUndoneToDayZero() {
        WallClocks x = Check.walled("board 9;clock 0 0 103 1 2 7;");
        Check.due("none on day 0", "0 0 0", () -> x.undo(1) + " " + x.undo(400) + " " + x.told(3));
        x.days(400);
        Check.due("one", "1 399 1197", () -> x.undo(1) + " " + x.told(3) + " " + x.clock(0, 6));
        Check.due("all but one", "398 1 3 10", () -> x.undo(398) + " " + x.told(3) + " " + x.clock(0, 6) + " " + x.clock(0, 5));
        Check.due("two, where one is", "1 0 0 7", () -> x.undo(2) + " " + x.told(3) + " " + x.clock(0, 6) + " " + x.clock(0, 5));
        x.days(400);
        Check.due("all 400 at once", "400 0 0", () -> x.undo(400) + " " + x.told(3) + " " + x.clock(0, 6));
        x.days(5);
        Check.due("just as many", "5 0", () -> x.undo(5) + " " + x.told(3));
    }

    /** "PHASES and OFF are as they were as that DAY began; all hang as they hang now". */
    private static void undoneAsThatDayBegan() {
        WallClocks x = Check.walled("board 1;board 9;clock 0 0 100 20 1 0;clock 0 1 110 1 0 900;hook 1 0;hook 0 19;");
        String[] phases = new String[41];
        String[] offs = new String[41];
        for (int day = 0; day <= 40; day++) {
            phases[day] = all(x, 5);
            offs[day] = all(x, 6);
            if (day == 15) {
                x.hang(1, 0);
            } else if (day == 30) {
                x.hang(1, 1);
            }
            x.days(1);
        }
        for (int day = 40; day >= 0; day--) {
            int back = day;
            x.undo(1);
            Check.due("phases of day " + day, phases[day], () -> all(x, 5));
            Check.due("off of day " + day, offs[day], () -> all(x, 6));
            Check.due("it hangs as now, on day " + back, "0 19", () -> x.clock(1, 0) + " " + x.clock(1, 1));
        }
        x.book(0, 5);
        x.days(3);
        x.book(0, 6);
        x.undo(3);
        Check.due("the book is none of it", 6, () -> x.book(0, 0));
    }

    // ---- parts

    private static String gone(int rate, int phase, int days) {
        WallClocks x = Check.walled("board 9;clock 0 0 " + (rate + 100) + " 1 2 " + phase + ";");
        x.days(days);
        return x.clock(0, 5) + " " + x.clock(0, 6);
    }

    /** "1,000 to a beat; a PHASE is 0 to 999". */
    private static void phasesGoRound() {
        Check.due("999 and 1", "0 1", () -> gone(1, 999, 1));
        Check.due("998 and 1", "999 1", () -> gone(1, 998, 1));
        Check.due("0 less 1", "999 -1", () -> gone(-1, 0, 1));
        Check.due("1 less 1", "0 -1", () -> gone(-1, 1, 1));
        Check.due("900 and 100", "0 100", () -> gone(100, 900, 1));
        Check.due("99 less 100", "999 -100", () -> gone(-100, 99, 1));
        Check.due("forty beats on", "7 40000", () -> gone(100, 7, 400));
        Check.due("forty beats back", "7 -40000", () -> gone(-100, 7, 400));
        Check.due("some beats on", "900 39900", () -> gone(100, 0, 399));
        Check.due("some beats back", "100 -39900", () -> gone(-100, 0, 399));
        Check.due("standing", "999 0", () -> gone(0, 999, 400));
    }

    /** RATE, damp and PULL at their greatest together. */
    private static void greatestWayOfADay() {
        WallClocks down = Check.walled("board 1;clock 0 0 0 1 0 250;clock 0 1 100 20 4 0;damp 0 50;");
        down.days(1);
        Check.due("100, 50 and 200 back", "900 -350", () -> down.clock(0, 5) + " " + down.clock(0, 6));
        WallClocks up = Check.walled("board 1;clock 0 0 200 1 0 750;clock 0 1 100 20 4 0;");
        up.days(1);
        Check.due("100 and 200 on", "50 300", () -> up.clock(0, 5) + " " + up.clock(0, 6));
        WallClocks winter = Check.walled("board 1;clock 0 0 0 1 0 250;clock 0 1 100 20 4 0;damp 0 50;");
        int seed = 0;
        while (drawsOf(seed, 1) != 7) {
            seed++;
        }
        int drawsSeven = seed;
        Check.due("and 7 in a winter", -357, () -> winter.winter(0, 1, drawsSeven));
    }

    /** "what its PHASE is more (round), -500 to 499". */
    private static void apartIsRound() {
        int[][] want = {{0, 0, 0}, {0, 1, 1}, {0, 499, 499}, {0, 500, -500}, {0, 501, -499}, {0, 999, -1}, {999, 0, 1}, {500, 0, -500}, {501, 0, 499},
            {499, 0, -499}, {499, 999, -500}, {999, 499, -500}, {999, 498, 499}, {500, 999, 499}, {750, 250, -500}, {999, 999, 0}};
        for (int[] row : want) {
            WallClocks x = Check.walled("board 9;clock 0 0 100 1 2 " + row[0] + ";clock 0 1 100 1 2 " + row[1] + ";");
            Check.due("apart from " + row[0] + " is " + row[1], row[2], () -> x.apart(0, 1));
        }
        for (int phase = 0; phase < 1000; phase++) {
            int other = phase;
            WallClocks y = Check.walled("board 9;clock 0 0 100 1 2 300;clock 0 1 100 1 2 " + phase + ";");
            Check.due("from -500 to 499, at " + other, true, () -> y.apart(0, 1) >= -500 && y.apart(0, 1) <= 499
                    && Math.floorMod(y.apart(0, 1) - (other - 300), 1000) == 0);
        }
    }

    // ---- who runs, who is stopped

    /** "if fewer than 8 DAYS went by since it was wound last". */
    private static void runsEightDays() {
        WallClocks x = Check.walled("board 9;clock 0 0 101 1 2 0;key 0 30;");
        for (int day = 0; day <= 70; day++) {
            int on = day;
            boolean runs = day % 30 < 8;
            Check.due("runs on day " + on, runs ? 1 : 0, () -> x.clock(0, 7));
            Check.due("goes on day " + on, runs ? 1 : 0, () -> x.off(0, 1) - x.clock(0, 6));
            x.days(1);
        }
    }

    /** "is wound on DAY 0 and each D DAYS, 1 to 30; each 8 without". */
    private static void keysOfEachLength() {
        for (int each = 1; each <= 30; each++) {
            String key = each == 8 ? "" : "key 0 " + each + ";";
            WallClocks x = Check.walled("board 9;clock 0 0 101 1 2 0;" + key);
            int goes = 0;
            for (int day = 0; day < 400; day++) {
                goes += day % each < 8 ? 1 : 0;
            }
            x.days(400);
            int many = goes;
            Check.due("days on which it went, wound each " + each, many, () -> x.clock(0, 6));
        }
        Check.due("each 9: all but the ninth", "8 8 9", () -> {
            WallClocks x = Check.walled("board 9;clock 0 0 101 1 2 0;key 0 9;");
            return x.off(0, 8) + " " + x.off(0, 9) + " " + x.off(0, 10);
        });
    }

    private static String stoppedBy(int phase) {
        WallClocks x = Check.walled("board 9;board 9;clock 0 0 100 1 3 " + phase + ";clock 0 19 101 1 2 500;clock 1 0 101 1 2 500;");
        return all(x, 8) + ", " + x.off(0, 1) + " " + x.off(1, 1) + " " + x.off(2, 1);
    }

    /** "whose PHASE is below 50 as the DAY begins STOPS its BOARD". */
    private static void cuckoosBelowFifty() {
        Check.due("at 0", "0 1 0, 0 0 1", () -> stoppedBy(0));
        Check.due("at 1", "0 1 0, 0 0 1", () -> stoppedBy(1));
        Check.due("at 49", "0 1 0, 0 0 1", () -> stoppedBy(49));
        Check.due("at 50", "0 0 0, 0 1 1", () -> stoppedBy(50));
        Check.due("at 51", "0 0 0, 0 1 1", () -> stoppedBy(51));
        Check.due("at 500", "0 0 0, 0 1 1", () -> stoppedBy(500));
        Check.due("at 999", "0 0 0, 0 1 1", () -> stoppedBy(999));
        WallClocks out = Check.walled("board 9;clock 0 0 101 1 3 49;clock 0 1 101 1 2 500;");
        Check.due("that DAY, though it is at 50 as it ends", 0, () -> out.off(1, 1));
        Check.due("not the next DAY", "1 2", () -> out.off(1, 2) + " " + out.off(1, 3));
        WallClocks in = Check.walled("board 9;clock 0 0 101 1 3 999;clock 0 1 101 1 2 500;");
        Check.due("round to 0: from the next DAY on", "1 1", () -> in.off(1, 1) + " " + in.off(1, 2));
        WallClocks back = Check.walled("board 9;clock 0 0 99 1 3 50;clock 0 1 101 1 2 500;");
        Check.due("from above: from the next DAY on", "1 1", () -> back.off(1, 1) + " " + back.off(1, 2));
        Check.due("other kinds stop nobody", "1 1 1 1", () -> {
            StringBuilder offs = new StringBuilder();
            for (int kind : new int[] {0, 1, 2, 4}) {
                offs.append(Check.walled("board 9;clock 0 0 100 1 " + kind + " 0;clock 0 19 101 1 2 500;").off(1, 1)).append(' ');
            }
            return offs.toString().trim();
        });
    }

    /** "all others on it stand still that DAY": not itself; a cuckoo among them stops the board all the same. */
    private static void cuckoosAndOthers() {
        WallClocks two = Check.walled("board 9;clock 0 0 110 1 3 10;clock 0 1 110 1 3 20;clock 0 2 110 1 2 0;");
        Check.due("two stop one another and the third", "1 1 1", () -> all(two, 8));
        two.days(100);
        Check.due("for good", "0 0 0", () -> all(two, 6));
        WallClocks keyed = Check.walled("board 9;clock 0 0 110 1 3 10;clock 0 1 110 1 3 20;clock 0 2 110 1 2 0;key 1 30;");
        keyed.days(8);
        Check.due("once one does not run, the other goes", "0 1 1", () -> all(keyed, 8));
        Check.due("it goes out of its 50 parts", "10 40 50", () -> keyed.off(0, 1) + " " + keyed.off(0, 4) + " " + keyed.off(0, 5));
        WallClocks still = Check.walled("board 9;clock 0 0 100 1 3 0;clock 0 1 101 1 2 500;key 0 9;");
        still.days(8);
        Check.due("who does not run stops nobody that day", "0 0, 0 1", () -> all(still, 8) + ", " + all(still, 6).charAt(0) + " " + still.off(1, 1));
        still.days(1);
        Check.due("wound again it does", "0 1", () -> all(still, 8));
        WallClocks moved = Check.walled("board 9;board 9;clock 0 0 100 1 3 0;clock 0 1 101 1 2 0;clock 1 1 101 1 2 0;hook 1 0;");
        moved.hang(0, 0);
        Check.due("its board is the one on which it hangs now", "0 0 1", () -> all(moved, 8));
        Check.due("alone on its board it stops nobody", "0", () -> all(Check.walled("board 9;clock 0 0 110 1 3 0;"), 8));
    }

    /** "Who does not RUN, or is STOPPED, stands still, and is not heard". */
    private static void notHeard() {
        WallClocks x = Check.walled("board 9;board 9;clock 0 0 100 1 0 0;clock 1 0 100 1 0 100;clock 1 1 100 1 3 600;hears 0 1 50;key 1 30;");
        Check.due("heard while it goes", 50, () -> x.pull(0));
        WallClocks stopped = Check.walled("board 9;board 9;clock 0 0 100 1 0 0;clock 1 0 100 1 0 100;clock 1 1 100 1 3 0;hears 0 1 50;");
        Check.due("not while it is stopped", "0 0", () -> stopped.pull(0) + " " + stopped.pull(1));
        Check.due("HEARING is the same for that", 50, () -> stopped.hearing(0, 1));
        WallClocks unwound = Check.walled("board 9;board 9;clock 0 0 100 1 1 0;clock 1 0 100 1 0 100;hears 1 0 50;key 0 9;key 1 10;");
        unwound.days(8);
        Check.due("who does not run is not heard, nor pulled", "0 0", () -> unwound.pull(0) + " " + unwound.pull(1));
        WallClocks hearer = Check.walled("board 9;board 9;clock 0 0 100 1 1 0;clock 1 0 100 1 1 100;clock 0 1 100 1 0 50;hears 2 1 60;key 2 9;");
        hearer.days(8);
        Check.due("who does not run has no pull", "0 0", () -> hearer.pull(2) + " " + (hearer.off(2, 1) - hearer.clock(2, 6)));
    }

    // ---- hearing

    private static int heard(int thick, int weight, int kind, int far) {
        return Check.walled("board " + thick + ";clock 0 0 100 1 0 0;clock 0 " + far + " 100 " + weight + " " + kind + " 0;").hearing(0, 1);
    }

    /** "times (10 less T), by 1 and how far their places are apart (cut)". */
    private static void hearingIsCut() {
        Check.due("the least of all", 0, () -> heard(9, 1, 0, 19));
        Check.due("1 by 2", 0, () -> heard(9, 1, 0, 1));
        Check.due("2 by 2", 1, () -> heard(9, 2, 0, 1));
        Check.due("3 by 2", 1, () -> heard(9, 3, 0, 1));
        Check.due("the greatest", 90, () -> heard(1, 20, 0, 1));
        Check.due("the greatest, heavy", 180, () -> heard(1, 20, 4, 1));
        Check.due("from end to end", 9, () -> heard(1, 20, 0, 19));
        Check.due("19 by 20", 0, () -> heard(9, 19, 0, 19));
        Check.due("20 by 20", 1, () -> heard(9, 20, 0, 19));
        Check.due("heavy: twice, and cut then", 1, () -> heard(9, 1, 4, 1));
        Check.due("heavy: 2 by 3", 0, () -> heard(9, 1, 4, 2));
        Check.due("and 99 more", 279, () -> Check.walled("board 1;clock 0 0 100 1 0 0;clock 0 1 100 20 4 0;hears 0 1 99;").hearing(0, 1));
        for (int far = 1; far <= 19; far++) {
            int by = far;
            Check.due(far + " places apart", 7 * 13 / (1 + far), () -> heard(3, 13, 0, by));
            Check.due(far + " places apart, the other way", 7 / (1 + far),
                    () -> Check.walled("board 3;clock 0 0 100 1 0 0;clock 0 " + by + " 100 13 0 0;").hearing(1, 0));
        }
    }

    /** "A deaf CLOCK hears nobody, nor is it heard; a leading one hears nobody". */
    private static void hearingOfKinds() {
        for (int kind = 0; kind <= 4; kind++) {
            for (int other = 0; other <= 4; other++) {
                boolean none = kind == 1 || kind == 2 || other == 2;
                int due = none ? 0 : 7 + (other == 4 ? 10 : 5);
                WallClocks x = Check.walled("board 5;clock 0 0 100 2 " + kind + " 0;clock 0 1 100 2 " + other + " 0;hears 0 1 7;");
                Check.due("kind " + kind + " of kind " + other, due, () -> x.hearing(0, 1));
                WallClocks y = Check.walled("board 5;board 5;clock 0 0 100 2 " + kind + " 0;clock 1 0 100 2 " + other + " 0;hears 0 1 7;");
                Check.due("kind " + kind + " of kind " + other + " on another board", none ? 0 : 7, () -> y.hearing(0, 1));
            }
        }
    }

    // ---- tendency and pull

    private static int pull(String text, int phase, int other) {
        return Check.walled(text.replace("%a", String.valueOf(phase)).replace("%b", String.valueOf(other))).pull(0);
    }

    /** "if that is -250 to 250; else less by 500, if it is above, more by 500, if it is below". HEARING is 50, so that PULL is half of it. */
    private static void tendencyTurns() {
        String half = "board 5;clock 0 0 100 1 0 %a;clock 0 3 100 20 4 %b;";
        int[][] want = {{0, 0}, {1, 0}, {2, 1}, {249, 124}, {250, 125}, {251, -124}, {252, -124}, {498, -1}, {499, 0}, {500, 0}, {501, 0}, {502, 1}, {748, 124},
            {749, 124}, {750, -125}, {751, -124}, {998, -1}, {999, 0}};
        for (int[] row : want) {
            Check.due("the other one is at " + row[0], row[1], () -> pull(half, 0, row[0]));
            Check.due("the other one is at " + row[0] + " from 600", row[1], () -> pull(half, 600, (row[0] + 600) % 1000));
        }
    }

    /** "by 100 times W of I (cut toward 0)". */
    private static void pullIsCutTowardZero() {
        String tenth = "board 5;clock 0 0 100 10 0 %a;clock 0 1 100 20 4 %b;";
        int[][] want = {{0, 0}, {9, 0}, {10, 1}, {19, 1}, {20, 2}, {991, 0}, {990, -1}, {981, -1}, {980, -2}};
        for (int[] row : want) {
            Check.due("ten weigh: the other one is at " + row[0], row[1], () -> pull(tenth, 0, row[0]));
        }
        Check.due("a heavy one's own weight counts once", 5, () -> pull("board 5;clock 0 0 100 10 4 %a;clock 0 1 100 20 4 %b;", 0, 50));
        Check.due("twenty weigh", 2, () -> pull("board 5;clock 0 0 100 20 0 %a;clock 0 1 100 20 4 %b;", 0, 59));
        String both = "board 9;board 9;board 9;clock 0 0 100 1 0 500;clock 1 0 100 1 1 %a;clock 2 0 100 1 1 %b;hears 0 1 50;hears 0 2 50;";
        Check.due("together, then cut: 99 and 99 of 100", 1, () -> pull(both.replace("50;", "99;"), 501, 501));
        Check.due("together, then cut: halves", 1, () -> pull(both, 501, 501));
        Check.due("together nothing", 0, () -> pull(both, 501, 499));
        Check.due("together, then cut, below 0", -1, () -> pull(both, 498, 499));
    }

    /** "-200 at least, 200 at most". */
    private static void pullHasLimits() {
        int[][] want = {{199, 199}, {200, 200}, {201, 200}, {250, 200}, {251, -200}, {299, -200}, {300, -200}, {301, -199}, {699, 199}, {700, 200}, {701, 200},
            {749, 200}, {750, -200}, {799, -200}, {800, -200}, {801, -199}};
        for (int[] row : want) {
            Check.due("the other one is at " + row[0], row[1], () -> pull(PLAIN_PULL, 0, row[0]));
        }
        String many = "board 1;clock 0 5 100 1 0 0;clock 0 6 100 20 4 250;clock 0 4 100 20 4 250;clock 0 7 100 20 4 250;clock 0 3 100 20 4 250;"
                + "clock 0 8 100 20 4 250;clock 0 2 100 20 4 250;clock 0 9 100 20 4 250;";
        Check.due("seven others, all on", 200, () -> Check.walled(many).pull(0));
        Check.due("seven others, all back", -200, () -> Check.walled(many.replace("250;", "750;")).pull(0));
        Check.due("seven on, and 99 more each", 200, () -> Check.walled(many + "hears 0 1 99;hears 0 2 99;hears 0 3 99;hears 0 4 99;hears 0 5 99;").pull(0));
        Check.due("alone", 0, () -> Check.walled("board 1;clock 0 5 100 1 0 0;").pull(0));
    }

    /** Each of eight hears the seven others. */
    private static void pullOfAllPairs() {
        int[] phases = {120, 7, 64, 231, 99, 150, 3, 203};
        StringBuilder text = new StringBuilder("board 1;");
        for (int i = 0; i < 8; i++) {
            text.append("clock 0 ").append(i).append(" 100 20 0 ").append(phases[i]).append(';');
        }
        WallClocks x = Check.walled(text.toString());
        StringBuilder offs = new StringBuilder();
        for (int i = 0; i < 8; i++) {
            int together = 0;
            for (int j = 0; j < 8; j++) {
                together += i == j ? 0 : 180 / (1 + Math.abs(i - j)) * (phases[j] - phases[i]);
            }
            int due = together / 2000;
            int clock = i;
            offs.append(i == 0 ? "" : " ").append(due);
            Check.due("the pull of all seven on " + i, due, () -> x.pull(clock));
        }
        x.days(1);
        Check.due("all went by it", offs, () -> all(x, 6));
    }

    /** HEARING of 1, one way alone. */
    private static void pullByTheLeastHearing() {
        String text = "board 9;board 9;clock 0 0 100 1 0 0;clock 1 0 100 1 0 250;";
        WallClocks first = Check.walled(text + "hears 0 1 1;");
        Check.due("the first hears the second", "2 0", () -> first.pull(0) + " " + first.pull(1));
        WallClocks second = Check.walled(text + "hears 1 0 1;");
        Check.due("the second hears the first", "0 -2", () -> second.pull(0) + " " + second.pull(1));
        WallClocks both = Check.walled(text + "hears 1 0 1;hears 0 1 2;");
        Check.due("each by its own", "5 -2", () -> both.pull(0) + " " + both.pull(1));
    }

    /** "All from the PHASES as the DAY begins". */
    private static void allFromThePhasesAsTheDayBegins() {
        WallClocks x = Check.walled("board 1;clock 0 0 100 1 0 0;clock 0 1 100 1 0 100;clock 0 2 100 1 0 200;");
        Check.due("pulls", "10 0 -10", () -> x.pull(0) + " " + x.pull(1) + " " + x.pull(2));
        x.days(1);
        Check.due("phases by these pulls", "10 100 190", () -> all(x, 5));
        Check.due("off by these pulls", "10 0 -10", () -> all(x, 6));
    }

    // ---- step, right, groups

    private static WallClocks twoAt(int phase, int other) {
        return Check.walled("board 9;clock 0 0 100 1 2 " + phase + ";clock 0 1 100 1 2 " + other + ";");
    }

    /** "APART by -20 to 20; in COUNTER-BEAT, by -480 or less, or 480 or more". */
    private static void inStepAndCounterBeat() {
        for (int from : new int[] {0, 490, 995}) {
            for (int apart = -500; apart <= 499; apart++) {
                int far = Math.abs(apart);
                int due = far <= 20 ? 2 : far >= 480 ? 1 : 0;
                WallClocks x = twoAt(from, Math.floorMod(from + apart, 1000));
                Check.due("step, apart by " + apart + " from " + from, due, () -> x.step(0, 1));
            }
        }
        Check.due("both ways alike", "2 2 0 0 1 1 0 0", () -> bothWays(20) + bothWays(21) + bothWays(480) + bothWays(479).trim());
    }

    private static String bothWays(int apart) {
        WallClocks x = twoAt(0, apart);
        return x.step(0, 1) + " " + x.step(1, 0) + " ";
    }

    /** "OFF from -E to E". */
    private static void rightToE() {
        Check.due("E 0, off 0", 1, () -> rightAt(0, 0, 1));
        Check.due("E 0, off 1 and -1", "0 0", () -> rightAt(0, 1, 1) + " " + rightAt(0, -1, 1));
        Check.due("E 50 without", "1 0 1 0", () -> rightAt(-1, 50, 1) + " " + rightAt(-1, 51, 1) + " " + rightAt(-1, -50, 1) + " " + rightAt(-1, -51, 1));
        Check.due("E 499, off 499", 1, () -> rightAfterDamp(100, 1));
        Check.due("E 499, off 500", 0, () -> rightAfterDamp(100, 0));
        Check.due("E 499, off -499", 1, () -> rightAfterDamp(-99, 4));
        Check.due("E 499, off -500", 0, () -> rightAfterDamp(-99, 5));
        Check.due("all eight at first", 255, () -> Check.walled("board 9;clock 0 0 0 1 2 0;clock 0 1 0 1 2 0;clock 0 2 0 1 2 0;clock 0 3 0 1 2 0;"
                + "clock 0 4 0 1 2 0;clock 0 5 0 1 2 0;clock 0 6 0 1 2 0;clock 0 7 0 1 2 0;right 0;").right());
        Check.due("none on an empty wall", 0, () -> Check.walled("right 499;").right());
    }

    private static int rightAt(int within, int rate, int days) {
        WallClocks x = Check.walled("board 9;clock 0 0 " + (rate + 100) + " 1 2 0;" + (within < 0 ? "" : "right " + within + ";"));
        x.days(days);
        return x.right();
    }

    private static int rightAfterDamp(int rate, int damp) {
        WallClocks x = Check.walled("board 9;clock 0 0 " + (rate + 100) + " 1 2 0;damp 0 " + damp + ";right 499;");
        x.days(5);
        return x.right();
    }

    private static int groupsOf(int... phases) {
        StringBuilder text = new StringBuilder("board 9;");
        for (int i = 0; i < phases.length; i++) {
            text.append("clock 0 ").append(i).append(" 100 1 2 ").append(phases[i]).append(';');
        }
        return Check.walled(text.toString()).groups();
    }

    /** "each IN STEP with some other one of them, or alone (bound by such pairs)". */
    private static void groupsFromNoneToAll() {
        Check.due("no clocks", 0, () -> groupsOf());
        Check.due("one", 1, () -> groupsOf(5));
        Check.due("two by 20", 1, () -> groupsOf(0, 20));
        Check.due("two by 21", 2, () -> groupsOf(0, 21));
        Check.due("two by 20, round", 1, () -> groupsOf(990, 10));
        Check.due("two by 21, round", 2, () -> groupsOf(990, 11));
        Check.due("counter-beat binds nobody", 2, () -> groupsOf(0, 500));
        Check.due("eight alike", 1, () -> groupsOf(7, 7, 7, 7, 7, 7, 7, 7));
        Check.due("eight alone", 8, () -> groupsOf(0, 21, 42, 63, 84, 105, 126, 147));
        Check.due("eight in one chain", 1, () -> groupsOf(0, 20, 40, 60, 80, 100, 120, 140));
        Check.due("a chain told crosswise", 1, () -> groupsOf(0, 140, 20, 120, 40, 100, 60, 80));
        Check.due("a chain told crosswise, broken once", 2, () -> groupsOf(0, 141, 20, 121, 40, 101, 60, 80));
        Check.due("a chain told from behind", 1, () -> groupsOf(140, 120, 100, 80, 60, 40, 20, 0));
        Check.due("four pairs", 4, () -> groupsOf(0, 250, 500, 750, 750, 500, 250, 0));
        WallClocks parting = Check.walled("board 9;clock 0 0 100 1 2 0;clock 0 1 101 1 2 0;clock 0 2 100 2 0 500;clock 0 3 100 2 0 700;");
        Check.due("two in step, two that hear one another", "3 3", () -> parting.groups() + " " + parting.bound());
        parting.days(20);
        Check.due("still in step", "3 3", () -> parting.groups() + " " + parting.bound());
        parting.days(1);
        Check.due("no longer", "4 3", () -> parting.groups() + " " + parting.bound());
    }

    // ---- hanging

    /** "where it hung, is free: that HOOK's number". */
    private static void hangOnAndBack() {
        WallClocks x = Check.walled("board 5;board 1;clock 0 0 100 2 0 0;clock 0 1 100 2 0 0;hook 1 19;hook 0 2;");
        String ahead = Check.stateOf(x);
        Check.due("hung, and hung back", "1 1", () -> x.hang(1, 0) + " " + x.hang(1, 0));
        Check.due("all is as it was", ahead, () -> Check.stateOf(x));
        Check.due("hung on one after the other", "1 1", () -> x.hang(0, 0) + " " + x.hang(0, 1));
        Check.due("the first hook is where the clock hung first", "0 0", () -> x.hook(0, 0) + " " + x.hook(0, 1));
        Check.due("the second is what was the first", "1 19", () -> x.hook(1, 0) + " " + x.hook(1, 1));
        Check.due("the clock is where the second was", "0 2", () -> x.clock(0, 0) + " " + x.clock(0, 1));
        Check.due("there are as many hooks", 2, () -> x.told(2));
        Check.due("hearing from there", 5, () -> x.hearing(0, 1));
        x.days(400);
        Check.due("on the last day too", 1, () -> x.hang(1, 1));
        Check.due("on that hook's board", "1 19 0 1", () -> x.clock(1, 0) + " " + x.clock(1, 1) + " " + x.hook(1, 0) + " " + x.hook(1, 1));
    }

    /** Promise 1: "No BOARDS"; days go by there too. */
    private static void toldOfAnEmptyWall() {
        WallClocks x = new WallClocks();
        Check.due("told", "0 0 0 0 50 0", () -> x.told(0) + " " + x.told(1) + " " + x.told(2) + " " + x.told(3) + " " + x.told(4) + " " + x.told(5));
        Check.due("days", "400 0 400", () -> x.days(400) + " " + x.days(1) + " " + x.told(3));
        Check.due("undone", "400 0", () -> x.undo(400) + " " + x.undo(1));
        Check.due("images", "1 2 3 -1", () -> x.image() + " " + x.image() + " " + x.image() + " " + x.image());
        Check.due("questions", "true 0 -1 0 -1 -1 0 0 0", () -> x.standing(100) + " " + x.pushed(200, 100) + " " + x.hold(100) + " " + x.infected(100) + " "
                + x.leader(100) + " " + x.better(100, 0) + " " + x.honest(100) + " " + x.groups() + " " + x.bound());
        Check.illegal("there is none to hang", () -> x.hung(1, 1, 0));
    }
}
