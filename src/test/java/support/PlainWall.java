import java.io.ByteArrayOutputStream;
import java.util.ArrayDeque;
import java.util.ArrayList;
import java.util.Collections;
import java.util.Deque;
import java.util.HashMap;
import java.util.HashSet;
import java.util.List;
import java.util.Map;
import java.util.NoSuchElementException;
import java.util.Set;
import java.util.TreeMap;
import java.util.TreeSet;
import java.util.function.IntUnaryOperator;

/** The document once more, word by word and without any thrift: what RandomRunsTest holds the class against. */
public final class PlainWall {
    static final int NONE = -1;
    static final int VOID = Integer.MIN_VALUE;

    static final class Clock {
        int board, x, rate, weight, kind, phase, off;
        int key = 8;

        Clock copy() {
            Clock c = new Clock();
            c.board = board;
            c.x = x;
            c.rate = rate;
            c.weight = weight;
            c.kind = kind;
            c.phase = phase;
            c.off = off;
            c.key = key;
            return c;
        }
    }

    /** A wall on a day; clocks that were taken down are not in it. */
    static final class World {
        List<Integer> thick = new ArrayList<>();
        TreeMap<Integer, Clock> clocks = new TreeMap<>();
        List<int[]> hooks = new ArrayList<>();
        Map<Integer, Integer> hears = new HashMap<>();
        Map<Integer, Integer> damp = new HashMap<>();
        Set<Integer> sound = new TreeSet<>();
        Map<Integer, Integer> book = new HashMap<>();
        List<Map<Integer, int[]>> past = new ArrayList<>();
        int e = 50;
        int day = 0;
        boolean noKeys = false;

        World copy() {
            World w = new World();
            w.thick.addAll(thick);
            clocks.forEach((k, c) -> w.clocks.put(k, c.copy()));
            hooks.forEach(h -> w.hooks.add(h.clone()));
            w.hears.putAll(hears);
            w.damp.putAll(damp);
            w.sound.addAll(sound);
            w.book.putAll(book);
            w.past.addAll(past);
            w.e = e;
            w.day = day;
            w.noKeys = noKeys;
            return w;
        }

        boolean runs(int i) {
            if (noKeys) {
                return true;
            }
            int woundLast = day;
            while (woundLast % clocks.get(i).key != 0) {
                woundLast--;
            }
            return day - woundLast < 8;
        }

        boolean stopped(int i) {
            for (int j : clocks.keySet()) {
                Clock c = clocks.get(j);
                if (j != i && c.kind == 3 && c.phase < 50 && c.board == clocks.get(i).board && runs(j)) {
                    return true;
                }
            }
            return false;
        }

        boolean goes(int i) {
            return runs(i) && !stopped(i);
        }

        int hearing(int i, int j) {
            Clock a = clocks.get(i);
            Clock b = clocks.get(j);
            if (a.kind == 2 || b.kind == 2 || a.kind == 1) {
                return 0;
            }
            int n = hears.getOrDefault(i * 100 + j, 0);
            if (a.board == b.board) {
                int w = b.kind == 4 ? b.weight + b.weight : b.weight;
                n += w * (10 - thick.get(a.board)) / (1 + Math.abs(a.x - b.x));
            }
            return n;
        }

        /** How far j is apart from i. */
        int apart(int i, int j) {
            int d = clocks.get(j).phase - clocks.get(i).phase;
            while (d < -500) {
                d += 1000;
            }
            while (d > 499) {
                d -= 1000;
            }
            return d;
        }

        int pull(int i) {
            long sum = 0;
            for (int j : clocks.keySet()) {
                if (j != i && goes(j)) {
                    int t = apart(i, j);
                    if (t > 250) {
                        t -= 500;
                    } else if (t < -250) {
                        t += 500;
                    }
                    sum += (long) hearing(i, j) * t;
                }
            }
            long by = sum / (100L * clocks.get(i).weight);
            return (int) (by < -200 ? -200 : by > 200 ? 200 : by);
        }

        void go(int n, IntUnaryOperator moreDamp) {
            for (int k = 0; k < n; k++) {
                int slower = damp.getOrDefault(day, 0) + moreDamp.applyAsInt(k);
                Map<Integer, Integer> by = new HashMap<>();
                for (int i : clocks.keySet()) {
                    if (goes(i)) {
                        by.put(i, clocks.get(i).rate - slower + pull(i));
                    }
                }
                by.forEach((i, more) -> {
                    Clock c = clocks.get(i);
                    c.off += more;
                    c.phase = ((c.phase + more) % 1000 + 1000) % 1000;
                });
                day++;
            }
        }

        /** A copy, so many days on. */
        World on(int n) {
            World w = copy();
            w.go(n, k -> 0);
            return w;
        }

        World without(int i) {
            World w = copy();
            w.clocks.remove(i);
            return w;
        }

        World only(Set<Integer> those) {
            World w = copy();
            w.clocks.keySet().retainAll(those);
            return w;
        }

        World withRate(int i, int rate) {
            World w = copy();
            w.clocks.get(i).rate = rate;
            return w;
        }

        World withHung(int i, int[] hook) {
            World w = copy();
            w.clocks.get(i).board = hook[0];
            w.clocks.get(i).x = hook[1];
            return w;
        }

        boolean right(int i) {
            return Math.abs(clocks.get(i).off) <= e;
        }

        int rightBits() {
            int bits = 0;
            for (int i : clocks.keySet()) {
                bits |= right(i) ? 1 << i : 0;
            }
            return bits;
        }

        int step(int i, int j) {
            int a = Math.abs(apart(i, j));
            return a <= 20 ? 2 : a >= 480 ? 1 : 0;
        }

        Set<String> pairsInStep() {
            Set<String> pairs = new HashSet<>();
            for (int i : clocks.keySet()) {
                for (int j : clocks.keySet()) {
                    if (i != j && step(i, j) == 2) {
                        pairs.add(i + "-" + j);
                    }
                }
            }
            return pairs;
        }
    }

    private final ByteArrayOutputStream tape = new ByteArrayOutputStream();
    private World now = new World();
    private Deque<World> images = new ArrayDeque<>();
    private int faultAt = NONE;

    // ---- what is told

    public int feed(int a, int b, int c, int d, int e) {
        if (tape.size() > 580) {
            return NONE;
        }
        for (int word : new int[] {a, b, c, d, e}) {
            tape.write(word >> 24);
            tape.write(word >> 16);
            tape.write(word >> 8);
            tape.write(word);
        }
        return tape.size();
    }

    public int wall(int n) {
        legal(n >= 0 && n <= tape.size());
        StringBuilder text = new StringBuilder();
        byte[] bytes = tape.toByteArray();
        for (int i = 0; i < n; i++) {
            text.append((char) (bytes[i] & 255));
        }
        tape.reset();
        PlainText parsed = new PlainText(text.toString());
        faultAt = parsed.faultAt;
        if (parsed.fault != 0) {
            return parsed.fault - 10;
        }
        now = parsed.world;
        images = new ArrayDeque<>();
        return now.clocks.size();
    }

    public int fault() {
        return faultAt;
    }

    public int told(int what) {
        legal(what >= 0 && what <= 5);
        int bits = 0;
        for (int i : now.sound) {
            bits += 1 << i;
        }
        return new int[] {now.thick.size(), now.clocks.size(), now.hooks.size(), now.day, now.e, bits}[what];
    }

    public int clock(int clock, int what) {
        there(clock);
        legal(what >= 0 && what <= 8);
        Clock c = now.clocks.get(clock);
        int runs = now.runs(clock) ? 1 : 0;
        int stopped = now.stopped(clock) ? 1 : 0;
        return new int[] {c.board, c.x, c.rate, c.weight, c.kind, c.phase, c.off, runs, stopped}[what];
    }

    public int hearing(int clock, int other) {
        pair(clock, other);
        return now.hearing(clock, other);
    }

    public int apart(int clock, int other) {
        pair(clock, other);
        return now.apart(clock, other);
    }

    public int pull(int clock) {
        there(clock);
        return now.goes(clock) ? now.pull(clock) : 0;
    }

    // ---- days

    public int days(int n) {
        legal(n >= 1 && n <= 400);
        int went = 0;
        while (went < n && now.day < 400) {
            Map<Integer, int[]> was = new HashMap<>();
            now.clocks.forEach((i, c) -> was.put(i, new int[] {c.phase, c.off}));
            now.past.add(was);
            now.go(1, k -> 0);
            went++;
        }
        return went;
    }

    public int undo(int n) {
        legal(n >= 1 && n <= 400);
        int undone = 0;
        while (undone < n && now.day > 0) {
            Map<Integer, int[]> was = now.past.remove(now.past.size() - 1);
            now.clocks.forEach((i, c) -> {
                c.phase = was.get(i)[0];
                c.off = was.get(i)[1];
            });
            now.day--;
            undone++;
        }
        return undone;
    }

    public int step(int clock, int other) {
        pair(clock, other);
        return now.step(clock, other);
    }

    public int right() {
        return now.rightBits();
    }

    public int groups() {
        return sets((i, j) -> now.step(i, j) == 2);
    }

    public int off(int clock, int n) {
        there(clock);
        daysOn(n);
        return now.on(n).clocks.get(clock).off;
    }

    public int hang(int clock, int hook) {
        there(clock);
        thereHook(hook);
        Clock c = now.clocks.get(clock);
        int[] free = now.hooks.get(hook);
        now.hooks.set(hook, new int[] {c.board, c.x});
        c.board = free[0];
        c.x = free[1];
        return 1;
    }

    public int hook(int hook, int what) {
        thereHook(hook);
        legal(what == 0 || what == 1);
        return now.hooks.get(hook)[what];
    }

    // ---- tried out

    public boolean standing(int n) {
        daysOn(n);
        World then = now.on(n);
        List<Integer> running = new ArrayList<>();
        for (int i : then.clocks.keySet()) {
            if (then.runs(i)) {
                running.add(i);
            }
        }
        boolean same = true;
        for (int i : running) {
            same &= then.apart(running.get(0), i) == now.apart(running.get(0), i);
        }
        return same;
    }

    public int pushed(int m, int n) {
        legal(m >= 1 && m <= 200);
        daysOn(n);
        int many = 0;
        for (int i : now.clocks.keySet()) {
            for (int by : new int[] {m, -m}) {
                World w = now.copy();
                w.clocks.get(i).phase = Math.floorMod(w.clocks.get(i).phase + by, 1000);
                many += w.on(n).pairsInStep().equals(now.pairsInStep()) ? 1 : 0;
            }
        }
        return many;
    }

    public int beginnings(int clock, int other, int n, int what) {
        pair(clock, other);
        daysOn(n);
        legal(what >= 0 && what <= 2);
        int[] many = new int[3];
        for (int k = 0; k < 20; k++) {
            World w = now.copy();
            w.clocks.get(clock).phase = 50 * k;
            many[2 - w.on(n).step(clock, other)]++;
        }
        return many[what];
    }

    public int away(int clock, int n) {
        there(clock);
        daysOn(n);
        World with = now.on(n);
        World without = now.without(clock).on(n);
        int bits = 0;
        for (int i : without.clocks.keySet()) {
            bits |= with.right(i) && !without.right(i) ? 1 << i : 0;
        }
        return bits;
    }

    public int hold(int n) {
        daysOn(n);
        List<Integer> sets = new ArrayList<>();
        for (int bits = 1; bits < 256; bits++) {
            if (now.sound.containsAll(members(bits))) {
                sets.add(bits);
            }
        }
        sets.sort((a, b) -> Integer.bitCount(a) != Integer.bitCount(b) ? Integer.bitCount(a) - Integer.bitCount(b) : a - b);
        for (int bits : sets) {
            Set<Integer> left = new TreeSet<>(now.clocks.keySet());
            left.removeAll(now.sound);
            left.addAll(members(bits));
            World w = now.only(left).on(n);
            boolean all = true;
            for (int i : left) {
                if (!members(bits).contains(i) && w.clocks.get(i).kind != 2) {
                    all &= members(bits).stream().anyMatch(s -> w.step(s, i) == 2);
                }
            }
            if (all) {
                return bits;
            }
        }
        return NONE;
    }

    public int hung(int clocks, int n, int what) {
        daysOn(n);
        legal(what >= 0 && what <= 2);
        legal(clocks > 0 && clocks < 256 && now.clocks.keySet().containsAll(members(clocks)));
        legal(members(clocks).size() <= 4);
        List<int[]> found = new ArrayList<>();
        hungOn(now, new ArrayList<>(members(clocks)), 0, new ArrayList<>(), n, found);
        if (found.isEmpty()) {
            return NONE;
        }
        if (what == 0) {
            return found.get(0)[0];
        }
        int[] best = found.get(0);
        for (int[] way : found) {
            best = way[1] < best[1] ? way : best;
        }
        return best[what - 1];
    }

    private void hungOn(World w, List<Integer> those, int next, List<Integer> taken, int n, List<int[]> found) {
        if (next == those.size()) {
            World then = w.on(n);
            if (those.stream().allMatch(then::right)) {
                StringBuilder digits = new StringBuilder();
                taken.forEach(h -> digits.append(h + 1));
                Map<Integer, Integer> load = new HashMap<>();
                w.clocks.values().forEach(c -> load.merge(c.board, c.weight, Integer::sum));
                found.add(new int[] {Integer.parseInt(digits.toString()), Collections.max(load.values())});
            }
            return;
        }
        for (int h = 0; h < now.hooks.size(); h++) {
            if (!taken.contains(h)) {
                taken.add(h);
                hungOn(w.withHung(those.get(next), now.hooks.get(h)), those, next + 1, taken, n, found);
                taken.remove(taken.size() - 1);
            }
        }
    }

    public int own(int clock, int off, int d, int n, int what) {
        there(clock);
        told99999(off);
        legal(d >= 0 && d <= 999);
        daysOn(n);
        legal(what >= 0 && what <= 2);
        TreeSet<Integer> rates = new TreeSet<>();
        for (int rate = -100; rate <= 100; rate++) {
            if (Math.abs(now.withRate(clock, rate).on(n).clocks.get(clock).off - off) <= d) {
                rates.add(rate);
            }
        }
        if (what == 0) {
            return rates.size();
        }
        return rates.isEmpty() ? VOID : what == 1 ? rates.first() : rates.last();
    }

    public int look(int clock, int n, int what) {
        there(clock);
        daysOn(n);
        legal(what == 0 || what == 1);
        List<World> worlds = new ArrayList<>();
        for (int rate = -100; rate <= 100; rate++) {
            worlds.add(now.withRate(clock, rate));
        }
        int[] best = {0, 0};
        for (int k = 1; k <= n; k++) {
            Set<Integer> offs = new HashSet<>();
            for (World w : worlds) {
                w.go(1, x -> 0);
                offs.add(w.clocks.get(clock).off);
            }
            if (offs.size() > best[1]) {
                best = new int[] {k, offs.size()};
            }
        }
        return best[what];
    }

    public int book(int clock, int off) {
        there(clock);
        if (off != VOID) {
            told99999(off);
        }
        int was = now.book.getOrDefault(clock, VOID);
        now.book.put(clock, off);
        return was;
    }

    public int infected(int n) {
        daysOn(n);
        int bits = 0;
        for (int i : now.clocks.keySet()) {
            for (int rate = -100; rate <= 100; rate++) {
                if (rate == now.clocks.get(i).rate) {
                    continue;
                }
                World then = now.withRate(i, rate).on(n);
                if (now.book.entrySet().stream().allMatch(t -> t.getValue() == VOID || t.getValue() == then.clocks.get(t.getKey()).off)) {
                    bits |= 1 << i;
                    break;
                }
            }
        }
        return bits;
    }

    public boolean fraud(int clock, int n) {
        there(clock);
        daysOn(n);
        return now.on(n).right(clock) && !now.only(Set.of(clock)).on(n).right(clock);
    }

    // ---- two alone

    private World two(int clock, int other, int delta) {
        World w = now.only(Set.of(clock, other));
        w.damp.clear();
        w.noKeys = true;
        w.day = 0;
        w.clocks.get(clock).phase = 500;
        w.clocks.get(other).phase = (500 + delta) % 1000;
        return w;
    }

    private int deltaOf(World w, int clock, int other) {
        return (w.clocks.get(other).phase - w.clocks.get(clock).phase + 1000) % 1000;
    }

    public int stays(int clock, int other, int what) {
        pair(clock, other);
        legal(what == 0 || what == 1);
        List<Integer> same = new ArrayList<>();
        for (int delta = 0; delta < 1000; delta++) {
            if (deltaOf(two(clock, other, delta).on(1), clock, other) == delta) {
                same.add(delta);
            }
        }
        return what == 0 ? same.size() : same.isEmpty() ? NONE : same.get(0);
    }

    public int drawn(int clock, int other, int delta, int n) {
        pair(clock, other);
        legal(delta >= 0 && delta <= 999);
        daysOn(n);
        return deltaOf(two(clock, other, delta).on(n), clock, other);
    }

    public int comes(int clock, int other, int n, int what) {
        pair(clock, other);
        daysOn(n);
        legal(what >= 0 && what <= 2);
        int[] many = new int[3];
        for (int delta = 0; delta <= 990; delta += 10) {
            many[2 - two(clock, other, delta).on(n).step(clock, other)]++;
        }
        return many[what];
    }

    // ---- who leads, what is better, what is sold

    public int leader(int n) {
        daysOn(n);
        World with = now.on(n);
        int best = NONE;
        int most = 0;
        for (int i : now.clocks.keySet()) {
            World without = now.without(i).on(n);
            int sum = 0;
            for (int j : without.clocks.keySet()) {
                sum += Math.abs(with.clocks.get(j).off - without.clocks.get(j).off);
            }
            if (sum > most) {
                most = sum;
                best = i;
            }
        }
        return best;
    }

    public int better(int n, int what) {
        daysOn(n);
        legal(what == 0 || what == 1);
        int most = Integer.bitCount(now.on(n).rightBits());
        int[] best = {NONE, NONE};
        for (int i : now.clocks.keySet()) {
            for (int h = 0; h < now.hooks.size(); h++) {
                int many = Integer.bitCount(now.withHung(i, now.hooks.get(h)).on(n).rightBits());
                if (many > most) {
                    most = many;
                    best = new int[] {100 * i + h, many};
                }
            }
        }
        return best[what];
    }

    public int wanted(int clock, int off, int n, int what) {
        there(clock);
        told99999(off);
        daysOn(n);
        legal(what == 0 || what == 1);
        int[] best = null;
        for (int rate = 100; rate >= -100; rate--) {
            int far = Math.abs(now.withRate(clock, rate).on(n).clocks.get(clock).off - off);
            if (best == null || far <= best[1]) {
                best = new int[] {rate, far};
            }
        }
        return best[what];
    }

    public int sale(int clock, int n) {
        there(clock);
        daysOn(n);
        for (int k = 1; k <= n; k++) {
            if (fraud(clock, k)) {
                return k;
            }
        }
        return NONE;
    }

    public int honest(int n) {
        daysOn(n);
        int bits = 0;
        for (int i : now.clocks.keySet()) {
            boolean always = true;
            for (int k = 1; k <= n; k++) {
                always &= now.only(Set.of(i)).on(k).right(i);
            }
            bits |= always ? 1 << i : 0;
        }
        return bits;
    }

    public int bound() {
        return sets((i, j) -> now.hearing(i, j) > 0 || now.hearing(j, i) > 0);
    }

    // ---- winters, images

    private World wintered(int n, int seed) {
        World w = now.copy();
        int[] s = {seed};
        w.go(n, k -> {
            s[0] = (int) (s[0] * 1103515245L + 12345L);
            return (s[0] & 0x70000) >> 16;
        });
        return w;
    }

    public int winter(int clock, int n, int seed) {
        there(clock);
        daysOn(n);
        return wintered(n, seed).clocks.get(clock).off;
    }

    public int winters(int clock, int n, int seed, int many) {
        there(clock);
        daysOn(n);
        legal(many >= 1 && many <= 60);
        int rights = 0;
        for (int k = 0; k < many; k++) {
            rights += wintered(n, seed + k).right(clock) ? 1 : 0;
        }
        return rights;
    }

    public int image() {
        if (images.size() == 3) {
            return -1;
        }
        images.push(now.copy());
        return images.size();
    }

    public int restore() {
        if (images.isEmpty()) {
            return -1;
        }
        now = images.pop();
        return images.size();
    }

    public int count(int what) {
        return what == 0 ? images.size() : what == 1 ? tape.size() : NONE;
    }

    // ---- for the test's own use

    int clocks() {
        return now.clocks.size();
    }

    int hooks() {
        return now.hooks.size();
    }

    /** Off of a clock n days on, if one clock had another rate. */
    int offIf(int changed, int rate, int clock, int n) {
        return now.withRate(changed, rate).on(n).clocks.get(clock).off;
    }

    // ---- common

    private interface Tie {
        boolean ties(int i, int j);
    }

    private int sets(Tie tie) {
        Set<Integer> left = new TreeSet<>(now.clocks.keySet());
        int many = 0;
        while (!left.isEmpty()) {
            Deque<Integer> todo = new ArrayDeque<>();
            int first = left.iterator().next();
            left.remove(first);
            todo.add(first);
            while (!todo.isEmpty()) {
                int i = todo.poll();
                for (int j : new ArrayList<>(left)) {
                    if (tie.ties(i, j)) {
                        left.remove(j);
                        todo.add(j);
                    }
                }
            }
            many++;
        }
        return many;
    }

    private static Set<Integer> members(int bits) {
        Set<Integer> in = new TreeSet<>();
        for (int i = 0; i < 31; i++) {
            if ((bits & 1 << i) != 0) {
                in.add(i);
            }
        }
        return in;
    }

    private void there(int clock) {
        if (!now.clocks.containsKey(clock)) {
            throw new NoSuchElementException();
        }
    }

    private void thereHook(int hook) {
        if (hook < 0 || hook >= now.hooks.size()) {
            throw new NoSuchElementException();
        }
    }

    private void pair(int clock, int other) {
        there(clock);
        there(other);
        legal(clock != other);
    }

    private static void daysOn(int n) {
        legal(n >= 1 && n <= 100);
    }

    private static void told99999(int off) {
        legal(off >= -99999 && off <= 99999);
    }

    private static void legal(boolean is) {
        if (!is) {
            throw new IllegalArgumentException();
        }
    }
}
