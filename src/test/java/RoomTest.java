import java.lang.management.ManagementFactory;

/** All calls of a run live in one room: an object takes a small part of it, and no call makes any. */
public final class RoomTest {
    private static final int OBJECTS = 100;
    /** As many as an object's 512 calls allow. */
    private static final int ROUNDS = 28;
    private static final long MOST_BYTES_OF_AN_OBJECT = 16_000;
    /** What the measuring itself may cost. */
    private static final long SLACK = 4_000;

    private static long answers = 0;

    private RoomTest() {
    }

    public static void main(String[] args) {
        com.sun.management.ThreadMXBean threads =
                (com.sun.management.ThreadMXBean) ManagementFactory.getThreadMXBean();
        ShareGrid[] grids = new ShareGrid[OBJECTS];
        round(new ShareGrid(4, 7));
        threads.getCurrentThreadAllocatedBytes();

        long start = threads.getCurrentThreadAllocatedBytes();
        for (int i = 0; i < OBJECTS; i++) {
            grids[i] = new ShareGrid(4, 7);
        }
        long made = threads.getCurrentThreadAllocatedBytes();
        for (int i = 0; i < OBJECTS * ROUNDS; i++) {
            round(grids[i % OBJECTS]);
        }
        long end = threads.getCurrentThreadAllocatedBytes();
        long bytesOfAnObject = (made - start) / OBJECTS;
        Due.due("an object of " + bytesOfAnObject + " bytes is small",
                bytesOfAnObject <= MOST_BYTES_OF_AN_OBJECT);
        Due.due("the calls made " + (end - made) + " bytes, none", end - made <= SLACK);
        Due.due("the rounds were answered", answers != 0);
        Due.finish();
    }

    private static void round(ShareGrid g) {
        int readKey = g.key(9, 1);
        int verifyKey = g.key(9, 3);
        answers += g.create(9) + g.draft(3, 8) + g.write(9);
        answers += g.picture(0, 0) + g.fallBack(0, 0) + g.tamper(0, 1, 0, 1) + g.wipe(0, 2);
        answers += g.sound(verifyKey) + g.best(verifyKey) + g.read(readKey) + g.word(3);
        answers += g.repair(verifyKey) + g.server(0, true, false) + g.share(0, 0, 0);
        answers += g.times(3, 200) + g.count(10);
    }
}
