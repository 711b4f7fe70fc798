import java.lang.management.ManagementFactory;

/** How much a run makes: rows are made once and used again, so that the dearest calls make nothing. */
public final class RoomTest {
    private static final String CROWD = "board 1;board 2;clock 0 0 101 1 0 10;clock 0 1 102 2 4 20;clock 0 2 103 3 3 30;clock 0 3 97 4 0 40;clock 0 4 96 5 1 50;"
            + "clock 0 5 95 6 0 60;clock 0 6 94 7 2 70;clock 1 7 93 8 0 80;hook 0 10;hook 0 11;hook 0 12;hook 1 13;hook 1 14;hook 1 15;"
            + "sound 0;sound 1;sound 2;sound 3;sound 4;sound 5;sound 6;sound 7;";

    private RoomTest() {
    }

    public static void main(String[] args) {
        run(new WallClocks());
        run(new WallClocks());
        long before = made();
        run(new WallClocks());
        long bytes = made() - before;
        Check.due("a run of dear calls makes less than 200,000 bytes, not " + bytes, true, () -> bytes < 200_000);
        long empty = made();
        WallClocks object = new WallClocks();
        long alone = made() - empty;
        Check.due("an object alone is less than 30,000 bytes, not " + alone, true, () -> alone < 30_000 && object.fault() == WallClocks.NONE);
        Check.end();
    }

    private static long made() {
        com.sun.management.ThreadMXBean threads = (com.sun.management.ThreadMXBean) ManagementFactory.getThreadMXBean();
        return threads.getThreadAllocatedBytes(Thread.currentThread().getId());
    }

    /** As many of the dearest calls as an object is used for: 512, with those that tell the wall. */
    private static void run(WallClocks x) {
        Check.read(x, CROWD);
        for (int k = 0; k < 22; k++) {
            x.days(18);
            x.image();
            x.image();
            x.image();
            x.image();
            x.look(k % 8, 20, 0);
            x.own(k % 8, 0, 3, 20, 0);
            x.book(1, k);
            x.infected(3);
            x.hold(9);
            x.hung(15, 9, 1);
            x.better(9, 0);
            x.leader(9);
            x.pushed(9, 9);
            x.beginnings(0, 1, 9, 0);
            x.comes(0, 1, 9, 0);
            x.stays(0, 1, 0);
            x.winters(0, 9, 1, 60);
            x.restore();
            x.undo(3);
            x.groups();
            x.bound();
        }
    }
}
