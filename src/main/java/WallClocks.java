import java.util.Arrays;
import java.util.NoSuchElementException;

/** Clocks on one wall that pull one another into step or counter-beat, day by day. */
public final class WallClocks {
    public static final int NONE = -1;
    public static final int VOID = -2147483648;

    private static final int MOST_BYTES = 600;
    private static final int MOST_CLAUSES = 60;
    private static final int MOST_BOARDS = 4;
    private static final int MOST_CLOCKS = 8;
    private static final int MOST_HOOKS = 6;
    private static final int MOST_IMAGES = 3;
    private static final int MOST_DAYS = 400;
    private static final int MOST_DAYS_ON = 100;
    private static final int MOST_HUNG = 4;
    private static final int MOST_WINTERS = 60;
    private static final int GREATEST_PLACE = 19;
    private static final int GREATEST_RATE = 100;
    private static final int RATES = 2 * GREATEST_RATE + 1;
    private static final int GREATEST_OFF = 99_999;
    private static final int BEAT = 1000;
    private static final int HALF_BEAT = 500;
    private static final int SPRING_DAYS = 8;
    /** Greater than any OFF or weight that can come. */
    private static final int ABOVE_ALL = 1_000_000_000;

    private static final int LEADING = 1;
    private static final int DEAF = 2;
    private static final int CUCKOO = 3;
    private static final int HEAVY = 4;

    private static final int IN_STEP = 2;
    private static final int COUNTER_BEAT = 1;
    private static final int NEITHER = 0;

    private final byte[] tape = new byte[MOST_BYTES];
    private int tapeBytes = 0;
    private final Reader reader = new Reader();
    private int faultPlace = NONE;
    private Plan plan = new Plan();
    private Plan spare = new Plan();
    private final Moment now = new Moment();
    private final Moment[] images = new Moment[MOST_IMAGES];
    private int imageCount = 0;
    private final Trial trial = new Trial(plan, now);
    private final Links links = new Links();
    private final Absences absences = new Absences(trial);
    private final Rates rates = new Rates(trial);
    private final Hangings hangings = new Hangings(trial);
    private final Twos twos = new Twos(trial);

    public WallClocks() {
    }

    public int feed(int a, int b, int c, int d, int e) {
        if (tapeBytes + 20 > MOST_BYTES) {
            return NONE;
        }
        putOnTape(a);
        putOnTape(b);
        putOnTape(c);
        putOnTape(d);
        putOnTape(e);
        return tapeBytes;
    }

    public int wall(int n) throws IllegalArgumentException {
        needWithin(n, 0, tapeBytes);
        tapeBytes = 0;
        int fault = reader.readText(tape, n, spare);
        faultPlace = reader.faultPlace;
        if (fault != Reader.NO_FAULT) {
            return fault - 10;
        }
        Plan read = spare;
        spare = plan;
        plan = read;
        now.startOf(plan);
        imageCount = 0;
        return plan.clocks;
    }

    public int fault() {
        return faultPlace;
    }

    public int told(int what) throws IllegalArgumentException {
        needWithin(what, 0, 5);
        switch (what) {
            case 0:
                return plan.boards;
            case 1:
                return plan.clocks;
            case 2:
                return plan.hooks;
            case 3:
                return now.day;
            case 4:
                return plan.rightWithin;
            default:
                return plan.sound;
        }
    }

    public int clock(int clock, int what) throws NoSuchElementException, IllegalArgumentException {
        needClock(clock);
        needWithin(what, 0, 8);
        switch (what) {
            case 0:
                return now.board[clock];
            case 1:
                return now.place[clock];
            case 2:
                return plan.rate[clock];
            case 3:
                return plan.weight[clock];
            case 4:
                return plan.kind[clock];
            case 5:
                return now.phaseOf(plan, clock);
            case 6:
                return now.off[clock];
            case 7:
                return plan.runsOn(clock, now.day) ? 1 : 0;
            default:
                return bitOf(asTheyHang().stoppedOnes(), clock);
        }
    }

    public int hearing(int clock, int other) throws NoSuchElementException, IllegalArgumentException {
        needPair(clock, other);
        return asTheyHang().hearingOf(clock, other);
    }

    public int apart(int clock, int other) throws NoSuchElementException, IllegalArgumentException {
        needPair(clock, other);
        return asTheyHang().apartFrom(clock, other);
    }

    public int pull(int clock) throws NoSuchElementException {
        needClock(clock);
        return asTheyHang().pullToday(clock);
    }

    public int days(int n) throws IllegalArgumentException {
        needWithin(n, 1, MOST_DAYS);
        int many = Math.min(n, MOST_DAYS - now.day);
        asTheyHang();
        for (int gone = 0; gone < many; gone++) {
            now.keepPast(plan.clocks);
            trial.goDays(1);
            now.takeOver(trial);
        }
        return many;
    }

    public int undo(int n) throws IllegalArgumentException {
        needWithin(n, 1, MOST_DAYS);
        int many = Math.min(n, now.day);
        now.goBackTo(now.day - many, plan.clocks);
        return many;
    }

    public int step(int clock, int other) throws NoSuchElementException, IllegalArgumentException {
        needPair(clock, other);
        return asTheyHang().beatOf(clock, other);
    }

    public int right() {
        return asTheyHang().rightOnes();
    }

    public int groups() {
        links.clearFor(plan.clocks);
        asTheyHang();
        for (int a = 0; a < plan.clocks; a++) {
            for (int b = a + 1; b < plan.clocks; b++) {
                if (trial.beatOf(a, b) == IN_STEP) {
                    links.join(a, b);
                }
            }
        }
        return links.countSets();
    }

    public int off(int clock, int n) throws NoSuchElementException, IllegalArgumentException {
        needClock(clock);
        needDaysOn(n);
        asTheyHang().goDays(n);
        return trial.off[clock];
    }

    public int hang(int clock, int hook) throws NoSuchElementException {
        needClock(clock);
        needHook(hook);
        now.changePlaces(clock, hook);
        return 1;
    }

    public int hook(int hook, int what) throws NoSuchElementException, IllegalArgumentException {
        needHook(hook);
        needWithin(what, 0, 1);
        return what == 0 ? now.hookBoard[hook] : now.hookPlace[hook];
    }

    public boolean standing(int n) throws IllegalArgumentException {
        needDaysOn(n);
        asTheyHang().goDays(n);
        int running = trial.runningOnes();
        int first = Integer.numberOfTrailingZeros(running);
        for (int other = first + 1; other < plan.clocks; other++) {
            if (bitOf(running, other) == 1 && trial.apartFrom(first, other) != now.apartFrom(plan, first, other)) {
                return false;
            }
        }
        return true;
    }

    public int pushed(int m, int n) throws IllegalArgumentException {
        needWithin(m, 1, 200);
        needDaysOn(n);
        long stepsNow = asTheyHang().stepPairs();
        int same = 0;
        for (int clock = 0; clock < plan.clocks; clock++) {
            for (int sign = -1; sign <= 1; sign += 2) {
                trial.begin();
                trial.setPhase(clock, trial.phase[clock] + sign * m);
                trial.goDays(n);
                same += trial.stepPairs() == stepsNow ? 1 : 0;
            }
        }
        return same;
    }

    public int beginnings(int clock, int other, int n, int what) throws NoSuchElementException, IllegalArgumentException {
        needPair(clock, other);
        needDaysOn(n);
        needWithin(what, 0, 2);
        asTheyHang();
        int many = 0;
        for (int phase = 0; phase < BEAT; phase += 50) {
            trial.begin();
            trial.setPhase(clock, phase);
            trial.goDays(n);
            many += trial.beatOf(clock, other) == beatAsked(what) ? 1 : 0;
        }
        return many;
    }

    public int away(int clock, int n) throws NoSuchElementException, IllegalArgumentException {
        needClock(clock);
        needDaysOn(n);
        asTheyHang();
        return absences.fallOut(clock, n);
    }

    public int hold(int n) throws IllegalArgumentException {
        needDaysOn(n);
        asTheyHang();
        return absences.fewestThatHold(n);
    }

    public int hung(int clocks, int n, int what) throws IllegalArgumentException {
        needDaysOn(n);
        needWithin(what, 0, 2);
        needWithin(clocks, 1, plan.allClocks());
        needWithin(Integer.bitCount(clocks), 1, MOST_HUNG);
        asTheyHang();
        return hangings.waysRight(clocks, n, what);
    }

    public int own(int clock, int off, int d, int n, int what) throws NoSuchElementException, IllegalArgumentException {
        needClock(clock);
        needWithin(off, -GREATEST_OFF, GREATEST_OFF);
        needWithin(d, 0, 999);
        needDaysOn(n);
        needWithin(what, 0, 2);
        asTheyHang();
        return rates.agreeing(clock, off, d, n, what);
    }

    public int look(int clock, int n, int what) throws NoSuchElementException, IllegalArgumentException {
        needClock(clock);
        needDaysOn(n);
        needWithin(what, 0, 1);
        asTheyHang();
        return rates.tellingDay(clock, n, what);
    }

    public int book(int clock, int off) throws NoSuchElementException, IllegalArgumentException {
        needClock(clock);
        if (off != VOID) {
            needWithin(off, -GREATEST_OFF, GREATEST_OFF);
        }
        int before = now.booked[clock];
        now.booked[clock] = off;
        return before;
    }

    public int infected(int n) throws IllegalArgumentException {
        needDaysOn(n);
        asTheyHang();
        int found = 0;
        for (int clock = 0; clock < plan.clocks; clock++) {
            if (rates.isExplainedBy(clock, n)) {
                found |= 1 << clock;
            }
        }
        return found;
    }

    public boolean fraud(int clock, int n) throws NoSuchElementException, IllegalArgumentException {
        needClock(clock);
        needDaysOn(n);
        asTheyHang().goDays(n);
        return trial.isRight(clock) && !absences.isRightAlone(clock, n);
    }

    public int stays(int clock, int other, int what) throws NoSuchElementException, IllegalArgumentException {
        needPair(clock, other);
        needWithin(what, 0, 1);
        asTheyHang();
        return twos.deltasThatStay(clock, other, what);
    }

    public int drawn(int clock, int other, int delta, int n) throws NoSuchElementException, IllegalArgumentException {
        needPair(clock, other);
        needWithin(delta, 0, BEAT - 1);
        needDaysOn(n);
        asTheyHang();
        twos.takeDownOthers(clock, other);
        return twos.deltaOn(clock, other, delta, n);
    }

    public int comes(int clock, int other, int n, int what) throws NoSuchElementException, IllegalArgumentException {
        needPair(clock, other);
        needDaysOn(n);
        needWithin(what, 0, 2);
        asTheyHang();
        return twos.deltasThatCome(clock, other, n, beatAsked(what));
    }

    public int leader(int n) throws IllegalArgumentException {
        needDaysOn(n);
        asTheyHang();
        return absences.mostMissed(n);
    }

    public int better(int n, int what) throws IllegalArgumentException {
        needDaysOn(n);
        needWithin(what, 0, 1);
        asTheyHang();
        return hangings.bestMove(n, what);
    }

    public int wanted(int clock, int off, int n, int what) throws NoSuchElementException, IllegalArgumentException {
        needClock(clock);
        needWithin(off, -GREATEST_OFF, GREATEST_OFF);
        needDaysOn(n);
        needWithin(what, 0, 1);
        asTheyHang();
        return rates.nearest(clock, off, n, what);
    }

    public int sale(int clock, int n) throws NoSuchElementException, IllegalArgumentException {
        needClock(clock);
        needDaysOn(n);
        asTheyHang();
        return absences.firstDayToSell(clock, n);
    }

    public int honest(int n) throws IllegalArgumentException {
        needDaysOn(n);
        asTheyHang();
        return absences.honestOnes(n);
    }

    public int bound() {
        links.clearFor(plan.clocks);
        asTheyHang();
        for (int a = 0; a < plan.clocks; a++) {
            for (int b = a + 1; b < plan.clocks; b++) {
                if (trial.hearingOf(a, b) > 0 || trial.hearingOf(b, a) > 0) {
                    links.join(a, b);
                }
            }
        }
        return links.countSets();
    }

    public int winter(int clock, int n, int seed) throws NoSuchElementException, IllegalArgumentException {
        needClock(clock);
        needDaysOn(n);
        asTheyHang().goWinter(n, seed);
        return trial.off[clock];
    }

    public int winters(int clock, int n, int seed, int many) throws NoSuchElementException, IllegalArgumentException {
        needClock(clock);
        needDaysOn(n);
        needWithin(many, 1, MOST_WINTERS);
        asTheyHang();
        int rightOnes = 0;
        for (int next = 0; next < many; next++) {
            trial.begin();
            trial.goWinter(n, seed + next);
            rightOnes += trial.isRight(clock) ? 1 : 0;
        }
        return rightOnes;
    }

    public int image() {
        if (imageCount >= MOST_IMAGES) {
            return -1;
        }
        if (images[imageCount] == null) {
            images[imageCount] = new Moment();
        }
        Moment latest = images[imageCount];
        if (latest != null) {
            latest.copyFrom(now);
        }
        imageCount++;
        return imageCount;
    }

    public int restore() {
        if (imageCount < 1) {
            return -1;
        }
        imageCount--;
        Moment latest = images[imageCount];
        if (latest != null) {
            now.copyFrom(latest);
        }
        return imageCount;
    }

    public int count(int what) {
        switch (what) {
            case 0:
                return imageCount;
            case 1:
                return tapeBytes;
            default:
                return NONE;
        }
    }

    private void putOnTape(int word) {
        for (int shift = 24; shift >= 0 && tapeBytes < MOST_BYTES; shift -= 8) {
            tape[tapeBytes] = (byte) (word >>> shift);
            tapeBytes++;
        }
    }

    /** Every question is asked of the one trial, set to the wall as it is now. */
    private Trial asTheyHang() {
        trial.take(plan, now);
        return trial;
    }

    private void needClock(int clock) {
        if (clock < 0 || clock >= plan.clocks) {
            throw new NoSuchElementException("no such clock");
        }
    }

    private void needHook(int hook) {
        if (hook < 0 || hook >= plan.hooks) {
            throw new NoSuchElementException("no such hook");
        }
    }

    private void needPair(int clock, int other) {
        needClock(clock);
        needClock(other);
        if (clock == other) {
            throw new IllegalArgumentException("a clock with itself");
        }
    }

    private static void needDaysOn(int n) {
        needWithin(n, 1, MOST_DAYS_ON);
    }

    private static void needWithin(int number, int least, int greatest) {
        if (number < least || number > greatest) {
            throw new IllegalArgumentException("a number outside its limits");
        }
    }

    private static int bitOf(int bits, int index) {
        return bits >>> index & 1;
    }

    private static int beatAsked(int what) {
        return what == 0 ? IN_STEP : what == 1 ? COUNTER_BEAT : NEITHER;
    }

    private static int beatBy(int apart) {
        if (apart >= -20 && apart <= 20) {
            return IN_STEP;
        }
        return apart <= -480 || apart >= 480 ? COUNTER_BEAT : NEITHER;
    }

    /** Both are phases, 0 to 999, so that one turn of the beat is enough. */
    private static int apartBy(int phase, int otherPhase) {
        int more = otherPhase - phase;
        if (more < -HALF_BEAT) {
            return more + BEAT;
        }
        return more >= HALF_BEAT ? more - BEAT : more;
    }

    /** What the text of a wall tells; nothing in it changes as days go by. */
    private static final class Plan {
        int boards = 0;
        int clocks = 0;
        int hooks = 0;
        int sound = 0;
        int rightWithin = 50;
        final int[] thick = new int[MOST_BOARDS];
        final int[] board = new int[MOST_CLOCKS];
        final int[] place = new int[MOST_CLOCKS];
        final int[] rate = new int[MOST_CLOCKS];
        final int[] weight = new int[MOST_CLOCKS];
        final int[] kind = new int[MOST_CLOCKS];
        final int[] firstPhase = new int[MOST_CLOCKS];
        final int[] key = new int[MOST_CLOCKS];
        final int[] hookBoard = new int[MOST_HOOKS];
        final int[] hookPlace = new int[MOST_HOOKS];
        final int[] hears = new int[MOST_CLOCKS * MOST_CLOCKS];
        final int[] damp = new int[MOST_DAYS];

        void clearAll() {
            boards = 0;
            clocks = 0;
            hooks = 0;
            sound = 0;
            rightWithin = 50;
            Arrays.fill(key, SPRING_DAYS);
            Arrays.fill(hears, 0);
            Arrays.fill(damp, 0);
        }

        int allClocks() {
            return (1 << clocks) - 1;
        }

        boolean isTaken(int onBoard, int at) {
            for (int i = 0; i < clocks; i++) {
                if (board[i] == onBoard && place[i] == at) {
                    return true;
                }
            }
            for (int i = 0; i < hooks; i++) {
                if (hookBoard[i] == onBoard && hookPlace[i] == at) {
                    return true;
                }
            }
            return false;
        }

        boolean runsOn(int clock, int day) {
            int each = key[clock];
            return each <= SPRING_DAYS || day % each < SPRING_DAYS;
        }

        boolean isRightBy(int off) {
            return off >= -rightWithin && off <= rightWithin;
        }

        int dampOn(int day) {
            return day >= 0 && day < MOST_DAYS ? damp[day] : 0;
        }
    }

    /** Reads the text of a wall into a plan, up to its first fault. */
    private static final class Reader {
        static final int NO_FAULT = 0;
        static final int OUT_OF_PLACE = 1;
        static final int NO_SUCH_NUMBER = 2;
        static final int TOO_MANY = 3;

        private static final int NO_WORD = -1;
        private static final int BOARD = 0;
        private static final int CLOCK = 1;
        private static final int HOOK = 2;
        private static final int HEARS = 3;
        private static final int DAMP = 4;
        private static final int KEY = 5;
        private static final int SOUND = 6;
        private static final int RIGHT = 7;
        /** Above every number that a wall may tell; longer rows of digits stop here. */
        private static final int ENOUGH = 10_000;

        private byte[] text = new byte[0];
        private int length = 0;
        private int at = 0;
        private int numberPlace = 0;
        private int fault = NO_FAULT;
        int faultPlace = NONE;

        int readText(byte[] tape, int bytes, Plan plan) {
            text = tape;
            length = Math.min(bytes, tape.length);
            at = 0;
            fault = NO_FAULT;
            faultPlace = NONE;
            plan.clearAll();
            for (int clause = 0; clause <= MOST_CLAUSES && fault == NO_FAULT; clause++) {
                skipBlanks();
                if (at >= length) {
                    break;
                }
                readClause(plan, clause);
            }
            return fault;
        }

        private void readClause(Plan plan, int clause) {
            int from = at;
            for (int i = at; i < length && isLetter(text[i]); i++) {
                at = i + 1;
            }
            int word = wordBetween(from, at);
            if (word == NO_WORD) {
                failAt(from, OUT_OF_PLACE);
            } else if (clause >= MOST_CLAUSES || isTooMany(plan, word)) {
                failAt(from, TOO_MANY);
            } else {
                readNumbers(plan, word);
            }
        }

        private static boolean isTooMany(Plan plan, int word) {
            switch (word) {
                case BOARD:
                    return plan.boards >= MOST_BOARDS;
                case CLOCK:
                    return plan.clocks >= MOST_CLOCKS;
                case HOOK:
                    return plan.hooks >= MOST_HOOKS;
                default:
                    return false;
            }
        }

        private void readNumbers(Plan plan, int word) {
            switch (word) {
                case BOARD:
                    readBoard(plan);
                    break;
                case CLOCK:
                    readClock(plan);
                    break;
                case HOOK:
                    readHook(plan);
                    break;
                case HEARS:
                    readHears(plan);
                    break;
                case DAMP:
                    readDamp(plan);
                    break;
                case KEY:
                    readKey(plan);
                    break;
                case SOUND:
                    readSound(plan);
                    break;
                default:
                    readRight(plan);
                    break;
            }
        }

        private void readBoard(Plan plan) {
            int thick = readNumber(1, 9);
            if (endsClause()) {
                plan.thick[plan.boards] = thick;
                plan.boards++;
            }
        }

        private void readClock(Plan plan) {
            int board = readNumber(0, plan.boards - 1);
            int place = readPlace(plan, board);
            int rate = readNumber(0, 2 * GREATEST_RATE) - GREATEST_RATE;
            int weight = readNumber(1, 20);
            int kind = readNumber(0, HEAVY);
            int phase = readNumber(0, BEAT - 1);
            if (endsClause()) {
                int clock = plan.clocks;
                plan.board[clock] = board;
                plan.place[clock] = place;
                plan.rate[clock] = rate;
                plan.weight[clock] = weight;
                plan.kind[clock] = kind;
                plan.firstPhase[clock] = phase;
                plan.clocks++;
            }
        }

        private void readHook(Plan plan) {
            int board = readNumber(0, plan.boards - 1);
            int place = readPlace(plan, board);
            if (endsClause()) {
                plan.hookBoard[plan.hooks] = board;
                plan.hookPlace[plan.hooks] = place;
                plan.hooks++;
            }
        }

        private void readHears(Plan plan) {
            int clock = readNumber(0, plan.clocks - 1);
            int other = readNumber(0, plan.clocks - 1);
            if (clock == other) {
                failAt(numberPlace, NO_SUCH_NUMBER);
            }
            int more = readNumber(0, 99);
            if (endsClause()) {
                plan.hears[clock * MOST_CLOCKS + other] = more;
            }
        }

        private void readDamp(Plan plan) {
            int day = readNumber(0, MOST_DAYS - 1);
            int slower = readNumber(0, 50);
            if (endsClause()) {
                plan.damp[day] = slower;
            }
        }

        private void readKey(Plan plan) {
            int clock = readNumber(0, plan.clocks - 1);
            int each = readNumber(1, 30);
            if (endsClause()) {
                plan.key[clock] = each;
            }
        }

        private void readSound(Plan plan) {
            int clock = readNumber(0, plan.clocks - 1);
            if (endsClause()) {
                plan.sound |= 1 << clock;
            }
        }

        private void readRight(Plan plan) {
            int within = readNumber(0, 499);
            if (endsClause()) {
                plan.rightWithin = within;
            }
        }

        private int readPlace(Plan plan, int board) {
            int place = readNumber(0, GREATEST_PLACE);
            if (plan.isTaken(board, place)) {
                failAt(numberPlace, NO_SUCH_NUMBER);
            }
            return place;
        }

        /** Answers 0 behind a fault; nothing of the clause is kept then. */
        private int readNumber(int least, int greatest) {
            if (fault != NO_FAULT) {
                return 0;
            }
            skipBlanks();
            numberPlace = at;
            int number = 0;
            for (int i = at; i < length && isDigit(text[i]); i++) {
                number = Math.min(ENOUGH, number * 10 + (text[i] - '0'));
                at = i + 1;
            }
            if (at == numberPlace) {
                failAt(at, OUT_OF_PLACE);
                return 0;
            }
            if (number < least || number > greatest) {
                failAt(numberPlace, NO_SUCH_NUMBER);
                return 0;
            }
            return number;
        }

        /** Whether the clause is whole and without fault. */
        private boolean endsClause() {
            if (fault != NO_FAULT) {
                return false;
            }
            skipBlanks();
            if (at >= length || text[at] != ';') {
                failAt(at, OUT_OF_PLACE);
                return false;
            }
            at++;
            return true;
        }

        private void failAt(int place, int kind) {
            if (fault == NO_FAULT) {
                fault = kind;
                faultPlace = place;
            }
        }

        private void skipBlanks() {
            for (int i = at; i < length && text[i] == ' '; i++) {
                at = i + 1;
            }
        }

        private int wordBetween(int from, int to) {
            if (isWord("board", from, to)) {
                return BOARD;
            }
            if (isWord("clock", from, to)) {
                return CLOCK;
            }
            if (isWord("hook", from, to)) {
                return HOOK;
            }
            if (isWord("hears", from, to)) {
                return HEARS;
            }
            if (isWord("damp", from, to)) {
                return DAMP;
            }
            if (isWord("key", from, to)) {
                return KEY;
            }
            if (isWord("sound", from, to)) {
                return SOUND;
            }
            return isWord("right", from, to) ? RIGHT : NO_WORD;
        }

        private boolean isWord(String word, int from, int to) {
            if (to - from != word.length()) {
                return false;
            }
            for (int i = 0; i < word.length(); i++) {
                if (text[from + i] != word.charAt(i)) {
                    return false;
                }
            }
            return true;
        }

        private static boolean isLetter(byte sign) {
            return sign >= 'a' && sign <= 'z';
        }

        private static boolean isDigit(byte sign) {
            return sign >= '0' && sign <= '9';
        }
    }

    /** The wall on one day: what changes by days, by hanging otherwise and by the book. */
    private static final class Moment {
        int day = 0;
        final int[] off = new int[MOST_CLOCKS];
        final int[] board = new int[MOST_CLOCKS];
        final int[] place = new int[MOST_CLOCKS];
        final int[] hookBoard = new int[MOST_HOOKS];
        final int[] hookPlace = new int[MOST_HOOKS];
        final int[] booked = new int[MOST_CLOCKS];
        /** OFF as each day gone by began; an image has its own, so that days undone behind it are its days. */
        private final int[] past = new int[MOST_DAYS * MOST_CLOCKS];

        void startOf(Plan plan) {
            day = 0;
            Arrays.fill(off, 0);
            Arrays.fill(booked, VOID);
            System.arraycopy(plan.board, 0, board, 0, MOST_CLOCKS);
            System.arraycopy(plan.place, 0, place, 0, MOST_CLOCKS);
            System.arraycopy(plan.hookBoard, 0, hookBoard, 0, MOST_HOOKS);
            System.arraycopy(plan.hookPlace, 0, hookPlace, 0, MOST_HOOKS);
        }

        void copyFrom(Moment other) {
            day = other.day;
            System.arraycopy(other.off, 0, off, 0, MOST_CLOCKS);
            System.arraycopy(other.board, 0, board, 0, MOST_CLOCKS);
            System.arraycopy(other.place, 0, place, 0, MOST_CLOCKS);
            System.arraycopy(other.hookBoard, 0, hookBoard, 0, MOST_HOOKS);
            System.arraycopy(other.hookPlace, 0, hookPlace, 0, MOST_HOOKS);
            System.arraycopy(other.booked, 0, booked, 0, MOST_CLOCKS);
            System.arraycopy(other.past, 0, past, 0, Math.min(day, MOST_DAYS) * MOST_CLOCKS);
        }

        /** PHASE and OFF always go on by the same, so that OFF alone is kept. */
        int phaseOf(Plan plan, int clock) {
            return Math.floorMod(plan.firstPhase[clock] + off[clock], BEAT);
        }

        int apartFrom(Plan plan, int clock, int other) {
            return apartBy(phaseOf(plan, clock), phaseOf(plan, other));
        }

        void keepPast(int clocks) {
            if (day < 0 || day >= MOST_DAYS) {
                return;
            }
            System.arraycopy(off, 0, past, day * MOST_CLOCKS, clocks);
        }

        void takeOver(Trial trial) {
            day = trial.day;
            System.arraycopy(trial.off, 0, off, 0, trial.clocks);
        }

        void goBackTo(int earlier, int clocks) {
            if (earlier < 0 || earlier >= day || earlier >= MOST_DAYS) {
                return;
            }
            day = earlier;
            System.arraycopy(past, earlier * MOST_CLOCKS, off, 0, clocks);
        }

        void changePlaces(int clock, int hook) {
            int freeBoard = board[clock];
            int freePlace = place[clock];
            board[clock] = hookBoard[hook];
            place[clock] = hookPlace[hook];
            hookBoard[hook] = freeBoard;
            hookPlace[hook] = freePlace;
        }
    }

    /** Days tried out from a moment on, with clocks taken down, hung otherwise or of another rate; the moment stays. */
    private static final class Trial {
        private static final int MOST_PAIRS = MOST_CLOCKS * (MOST_CLOCKS - 1) / 2;

        Plan plan;
        Moment start;
        int clocks = 0;
        int day = 0;
        final int[] rate = new int[MOST_CLOCKS];
        final int[] phase = new int[MOST_CLOCKS];
        final int[] off = new int[MOST_CLOCKS];
        final int[] board = new int[MOST_CLOCKS];
        final int[] place = new int[MOST_CLOCKS];
        private int up = 0;
        private boolean alwaysWound = false;
        private final int[] boardMates = new int[MOST_CLOCKS];
        private final int[] drive = new int[MOST_CLOCKS];
        private int pairs = 0;
        private final int[] pairFirst = new int[MOST_PAIRS];
        private final int[] pairSecond = new int[MOST_PAIRS];
        private final int[] firstHears = new int[MOST_PAIRS];
        private final int[] secondHears = new int[MOST_PAIRS];

        Trial(Plan ofPlan, Moment atStart) {
            plan = ofPlan;
            start = atStart;
        }

        void take(Plan ofPlan, Moment atStart) {
            plan = ofPlan;
            start = atStart;
            clocks = ofPlan.clocks;
            alwaysWound = false;
            System.arraycopy(atStart.board, 0, board, 0, MOST_CLOCKS);
            System.arraycopy(atStart.place, 0, place, 0, MOST_CLOCKS);
            System.arraycopy(ofPlan.rate, 0, rate, 0, MOST_CLOCKS);
            keepUp(ofPlan.allClocks());
            begin();
        }

        void begin() {
            day = start.day;
            for (int i = 0; i < clocks; i++) {
                off[i] = start.off[i];
                phase[i] = start.phaseOf(plan, i);
            }
        }

        void setPhase(int clock, int to) {
            phase[clock] = Math.floorMod(to, BEAT);
        }

        void windAlways() {
            alwaysWound = true;
        }

        void hangAt(int clock, int onBoard, int at) {
            board[clock] = onBoard;
            place[clock] = at;
        }

        /** Who hears whom stays for all days, so that it is found once, for those pairs alone where one hears. */
        void keepUp(int those) {
            up = those;
            pairs = 0;
            for (int a = 0; a < clocks; a++) {
                boardMates[a] = 0;
                for (int b = 0; b < clocks; b++) {
                    if (b != a && board[b] == board[a]) {
                        boardMates[a] |= 1 << b;
                    }
                    if (b > a && bitOf(up, a) == 1 && bitOf(up, b) == 1) {
                        keepPair(a, b);
                    }
                }
            }
        }

        private void keepPair(int a, int b) {
            int ofB = hearingOf(a, b);
            int ofA = hearingOf(b, a);
            if (pairs >= MOST_PAIRS || ofA == 0 && ofB == 0) {
                return;
            }
            pairFirst[pairs] = a;
            pairSecond[pairs] = b;
            firstHears[pairs] = ofB;
            secondHears[pairs] = ofA;
            pairs++;
        }

        int hearingOf(int clock, int other) {
            int kind = plan.kind[clock];
            if (kind == DEAF || kind == LEADING || plan.kind[other] == DEAF) {
                return 0;
            }
            int more = plan.hears[clock * MOST_CLOCKS + other];
            if (board[clock] != board[other]) {
                return more;
            }
            int weight = plan.kind[other] == HEAVY ? 2 * plan.weight[other] : plan.weight[other];
            int far = 1 + Math.abs(place[clock] - place[other]);
            return far < 1 ? more : weight * (10 - plan.thick[board[clock]]) / far + more;
        }

        int runningOnes() {
            if (alwaysWound) {
                return up;
            }
            int running = 0;
            for (int i = 0; i < clocks; i++) {
                if (plan.runsOn(i, day)) {
                    running |= 1 << i;
                }
            }
            return running & up;
        }

        int stoppedOnes() {
            return stoppedBy(runningOnes());
        }

        private int stoppedBy(int running) {
            int stopped = 0;
            for (int i = 0; i < clocks; i++) {
                if (plan.kind[i] == CUCKOO && phase[i] < 50 && bitOf(running, i) == 1) {
                    stopped |= boardMates[i];
                }
            }
            return stopped;
        }

        private int goingAmong(int running) {
            return running & ~stoppedBy(running);
        }

        boolean goesToday(int clock) {
            return bitOf(goingAmong(runningOnes()), clock) == 1;
        }

        int pullToday(int clock) {
            gatherDrives(goingAmong(runningOnes()));
            return goesToday(clock) ? pullBy(clock) : 0;
        }

        /** TENDENCY one way is TENDENCY the other way below 0, so that a pair is looked at once. */
        private void gatherDrives(int going) {
            Arrays.fill(drive, 0);
            for (int p = 0; p < pairs; p++) {
                int a = pairFirst[p];
                int b = pairSecond[p];
                if ((going >>> a & going >>> b & 1) == 1) {
                    int tendency = tendencyBy(apartBy(phase[a], phase[b]));
                    drive[a] += firstHears[p] * tendency;
                    drive[b] -= secondHears[p] * tendency;
                }
            }
        }

        private static int tendencyBy(int apart) {
            if (apart > 250) {
                return apart - HALF_BEAT;
            }
            return apart < -250 ? apart + HALF_BEAT : apart;
        }

        private int pullBy(int clock) {
            int resists = 100 * plan.weight[clock];
            if (resists < 1) {
                return 0;
            }
            return Math.max(-200, Math.min(200, drive[clock] / resists));
        }

        void goDays(int n) {
            for (int gone = 0; gone < n; gone++) {
                goDay(plan.dampOn(day));
            }
        }

        void goWinter(int n, int seed) {
            int drawn = seed;
            for (int gone = 0; gone < n; gone++) {
                drawn = drawn * 1_103_515_245 + 12_345;
                goDay(plan.dampOn(day) + (drawn >>> 16 & 7));
            }
        }

        void goDay(int damp) {
            int going = goingAmong(runningOnes());
            gatherDrives(going);
            for (int i = 0; i < clocks; i++) {
                if (bitOf(going, i) == 1) {
                    int by = rate[i] - damp + pullBy(i);
                    off[i] += by;
                    setPhase(i, phase[i] + by);
                }
            }
            day++;
        }

        int apartFrom(int clock, int other) {
            return apartBy(phase[clock], phase[other]);
        }

        int beatOf(int clock, int other) {
            return beatBy(apartFrom(clock, other));
        }

        boolean isRight(int clock) {
            return plan.isRightBy(off[clock]);
        }

        /** Among those that are up. */
        int rightOnes() {
            int found = 0;
            for (int i = 0; i < clocks; i++) {
                if (isRight(i)) {
                    found |= 1 << i;
                }
            }
            return found & up;
        }

        long stepPairs() {
            long found = 0;
            for (int a = 0; a < clocks; a++) {
                for (int b = a + 1; b < clocks; b++) {
                    if (beatOf(a, b) == IN_STEP) {
                        found |= 1L << a * MOST_CLOCKS + b;
                    }
                }
            }
            return found;
        }
    }

    /** Clocks joined in pairs, and the sets that come of it. */
    private static final class Links {
        private int clocks = 0;
        private final int[] joined = new int[MOST_CLOCKS];

        void clearFor(int many) {
            clocks = Math.min(many, MOST_CLOCKS);
            Arrays.fill(joined, 0);
        }

        void join(int a, int b) {
            joined[a] |= 1 << b;
            joined[b] |= 1 << a;
        }

        int countSets() {
            int seen = 0;
            int sets = 0;
            for (int i = 0; i < clocks; i++) {
                if (bitOf(seen, i) == 0) {
                    sets++;
                    seen |= reachedFrom(i);
                }
            }
            return sets;
        }

        private int reachedFrom(int first) {
            int reached = 1 << first;
            for (int round = 1; round < clocks; round++) {
                for (int i = 0; i < clocks; i++) {
                    if (bitOf(reached, i) == 1) {
                        reached |= joined[i];
                    }
                }
            }
            return reached;
        }
    }

    /** What comes when clocks are taken down. */
    private static final class Absences {
        private final Trial trial;
        private final int[] offWithAll = new int[MOST_CLOCKS];

        Absences(Trial trial) {
            this.trial = trial;
        }

        private void tryOnly(int those, int n) {
            trial.keepUp(those);
            trial.begin();
            trial.goDays(n);
        }

        int fallOut(int clock, int n) {
            trial.goDays(n);
            int rightWith = trial.rightOnes();
            tryOnly(trial.plan.allClocks() & ~(1 << clock), n);
            return rightWith & ~(1 << clock) & ~trial.rightOnes();
        }

        /** Sets go upward as numbers, so that of equally many the first found is the least. */
        int fewestThatHold(int n) {
            int sound = trial.plan.sound;
            int others = trial.plan.allClocks() & ~sound;
            int fewest = MOST_CLOCKS + 1;
            int best = NONE;
            for (int set = 1; set <= sound; set++) {
                if ((set & ~sound) != 0 || Integer.bitCount(set) >= fewest) {
                    continue;
                }
                tryOnly(others | set, n);
                if (holdsAll(set, others)) {
                    best = set;
                    fewest = Integer.bitCount(set);
                }
            }
            return best;
        }

        private boolean holdsAll(int set, int others) {
            for (int i = 0; i < trial.clocks; i++) {
                if (bitOf(others, i) == 1 && trial.plan.kind[i] != DEAF && !isHeldBy(set, i)) {
                    return false;
                }
            }
            return true;
        }

        private boolean isHeldBy(int set, int clock) {
            for (int i = 0; i < trial.clocks; i++) {
                if (bitOf(set, i) == 1 && trial.beatOf(i, clock) == IN_STEP) {
                    return true;
                }
            }
            return false;
        }

        boolean isRightAlone(int clock, int n) {
            return trial.plan.isRightBy(offAlone(clock, n));
        }

        /** Alone nothing pulls a clock, and nothing stops it. */
        private int offAlone(int clock, int n) {
            int off = trial.start.off[clock];
            for (int gone = 0; gone < n; gone++) {
                off += goneAlone(clock, trial.start.day + gone);
            }
            return off;
        }

        private int goneAlone(int clock, int day) {
            Plan plan = trial.plan;
            return plan.runsOn(clock, day) ? plan.rate[clock] - plan.dampOn(day) : 0;
        }

        int mostMissed(int n) {
            trial.goDays(n);
            System.arraycopy(trial.off, 0, offWithAll, 0, MOST_CLOCKS);
            int most = 0;
            int first = NONE;
            for (int clock = 0; clock < trial.clocks; clock++) {
                tryOnly(trial.plan.allClocks() & ~(1 << clock), n);
                int otherwise = goneOtherwise(clock);
                if (otherwise > most) {
                    most = otherwise;
                    first = clock;
                }
            }
            return first;
        }

        private int goneOtherwise(int without) {
            int together = 0;
            for (int i = 0; i < trial.clocks; i++) {
                if (i != without) {
                    together += Math.abs(trial.off[i] - offWithAll[i]);
                }
            }
            return together;
        }

        int firstDayToSell(int clock, int n) {
            int alone = trial.start.off[clock];
            for (int on = 1; on <= n; on++) {
                alone += goneAlone(clock, trial.day);
                trial.goDays(1);
                if (trial.isRight(clock) && !trial.plan.isRightBy(alone)) {
                    return on;
                }
            }
            return NONE;
        }

        int honestOnes(int n) {
            int found = 0;
            for (int clock = 0; clock < trial.clocks; clock++) {
                if (isHonest(clock, n)) {
                    found |= 1 << clock;
                }
            }
            return found;
        }

        private boolean isHonest(int clock, int n) {
            int alone = trial.start.off[clock];
            for (int gone = 0; gone < n; gone++) {
                alone += goneAlone(clock, trial.start.day + gone);
                if (!trial.plan.isRightBy(alone)) {
                    return false;
                }
            }
            return true;
        }
    }

    /** What comes when a clock has another rate. */
    private static final class Rates {
        private final Trial trial;

        Rates(Trial trial) {
            this.trial = trial;
        }

        private void tryRate(int clock, int rate, int n) {
            trial.begin();
            trial.rate[clock] = rate;
            trial.goDays(n);
        }

        int agreeing(int clock, int off, int d, int n, int what) {
            int many = 0;
            int least = VOID;
            int greatest = VOID;
            for (int rate = -GREATEST_RATE; rate <= GREATEST_RATE; rate++) {
                tryRate(clock, rate, n);
                if (Math.abs(trial.off[clock] - off) <= d) {
                    least = many == 0 ? rate : least;
                    greatest = rate;
                    many++;
                }
            }
            return what == 0 ? many : what == 1 ? least : greatest;
        }

        int nearest(int clock, int off, int n, int what) {
            int best = NONE;
            int nearestFar = ABOVE_ALL;
            for (int rate = -GREATEST_RATE; rate <= GREATEST_RATE; rate++) {
                tryRate(clock, rate, n);
                int far = Math.abs(trial.off[clock] - off);
                if (far < nearestFar) {
                    nearestFar = far;
                    best = rate;
                }
            }
            return what == 0 ? best : nearestFar;
        }

        boolean isExplainedBy(int clock, int n) {
            int ownRate = trial.plan.rate[clock];
            boolean found = false;
            for (int rate = -GREATEST_RATE; rate <= GREATEST_RATE && !found; rate++) {
                if (rate != ownRate) {
                    tryRate(clock, rate, n);
                    found = agreesWithBook();
                }
            }
            trial.rate[clock] = ownRate;
            return found;
        }

        private boolean agreesWithBook() {
            for (int i = 0; i < trial.clocks; i++) {
                int told = trial.start.booked[i];
                if (told != VOID && told != trial.off[i]) {
                    return false;
                }
            }
            return true;
        }

        /**
         * Until a clock goes, the wall is the same whatever its rate; on the day on which it first goes, each rate
         * gives an OFF of its own, and more unlike ones there can't be.
         */
        int tellingDay(int clock, int n, int what) {
            for (int on = 1; on <= n; on++) {
                if (trial.goesToday(clock)) {
                    return what == 0 ? on : RATES;
                }
                trial.goDays(1);
            }
            return 1;
        }
    }

    /** What comes when clocks hang on free hooks. */
    private static final class Hangings {
        private final Trial trial;
        private final int[] chosen = new int[MOST_HUNG];
        private final int[] hookOf = new int[MOST_HUNG];
        private int many = 0;

        Hangings(Trial trial) {
            this.trial = trial;
        }

        int waysRight(int those, int n, int what) {
            choose(those);
            int least = ABOVE_ALL;
            int best = NONE;
            int ways = countWays();
            for (int way = 0; way < ways; way++) {
                if (!spreadHooks(way)) {
                    continue;
                }
                hangChosen();
                int weight = mostWeight();
                if (weight >= least) {
                    continue;
                }
                tryHung(n);
                if ((those & ~trial.rightOnes()) == 0) {
                    best = writtenWay();
                    least = weight;
                    if (what == 0) {
                        break;
                    }
                }
            }
            return what == 2 && best != NONE ? least : best;
        }

        private void choose(int those) {
            many = 0;
            for (int i = 0; i < trial.clocks && many < MOST_HUNG; i++) {
                if (bitOf(those, i) == 1) {
                    chosen[many] = i;
                    many++;
                }
            }
        }

        private int countWays() {
            int ways = 1;
            for (int i = 0; i < many; i++) {
                ways *= trial.plan.hooks;
            }
            return ways;
        }

        /** The way's digits are hooks, the first clock's the highest, so that ways counted upward come in order. */
        private boolean spreadHooks(int way) {
            int hooks = trial.plan.hooks;
            if (hooks < 1) {
                return false;
            }
            int rest = way;
            int used = 0;
            for (int i = many - 1; i >= 0; i--) {
                int hook = rest % hooks;
                if (bitOf(used, hook) == 1) {
                    return false;
                }
                used |= 1 << hook;
                hookOf[i] = hook;
                rest /= hooks;
            }
            return true;
        }

        private void hangChosen() {
            Moment start = trial.start;
            for (int i = 0; i < many; i++) {
                trial.hangAt(chosen[i], start.hookBoard[hookOf[i]], start.hookPlace[hookOf[i]]);
            }
        }

        private int mostWeight() {
            int most = 0;
            for (int board = 0; board < trial.plan.boards; board++) {
                int weight = 0;
                for (int i = 0; i < trial.clocks; i++) {
                    weight += trial.board[i] == board ? trial.plan.weight[i] : 0;
                }
                most = Math.max(most, weight);
            }
            return most;
        }

        private void tryHung(int n) {
            trial.keepUp(trial.plan.allClocks());
            trial.begin();
            trial.goDays(n);
        }

        private int writtenWay() {
            int written = 0;
            for (int i = 0; i < many; i++) {
                written = written * 10 + hookOf[i] + 1;
            }
            return written;
        }

        int bestMove(int n, int what) {
            trial.goDays(n);
            int most = Integer.bitCount(trial.rightOnes());
            int best = NONE;
            Moment start = trial.start;
            for (int clock = 0; clock < trial.clocks; clock++) {
                for (int hook = 0; hook < trial.plan.hooks; hook++) {
                    trial.hangAt(clock, start.hookBoard[hook], start.hookPlace[hook]);
                    tryHung(n);
                    int rightThen = Integer.bitCount(trial.rightOnes());
                    if (rightThen > most) {
                        most = rightThen;
                        best = 100 * clock + hook;
                    }
                }
                trial.hangAt(clock, start.board[clock], start.place[clock]);
            }
            return what == 1 && best != NONE ? most : best;
        }
    }

    /** Two clocks alone, without damp and keys. */
    private static final class Twos {
        private static final int FIRST_PHASE = 500;

        private final Trial trial;

        Twos(Trial trial) {
            this.trial = trial;
        }

        void takeDownOthers(int clock, int other) {
            trial.keepUp(1 << clock | 1 << other);
            trial.windAlways();
        }

        int deltaOn(int clock, int other, int delta, int n) {
            trial.setPhase(clock, FIRST_PHASE);
            trial.setPhase(other, FIRST_PHASE + delta);
            for (int gone = 0; gone < n; gone++) {
                trial.goDay(0);
            }
            return Math.floorMod(trial.phase[other] - trial.phase[clock], BEAT);
        }

        int deltasThatStay(int clock, int other, int what) {
            takeDownOthers(clock, other);
            int many = 0;
            int first = NONE;
            for (int delta = 0; delta < BEAT; delta++) {
                if (deltaOn(clock, other, delta, 1) == delta) {
                    first = many == 0 ? delta : first;
                    many++;
                }
            }
            return what == 0 ? many : first;
        }

        int deltasThatCome(int clock, int other, int n, int beat) {
            takeDownOthers(clock, other);
            int many = 0;
            for (int delta = 0; delta < BEAT; delta += 10) {
                deltaOn(clock, other, delta, n);
                many += trial.beatOf(clock, other) == beat ? 1 : 0;
            }
            return many;
        }
    }
}
