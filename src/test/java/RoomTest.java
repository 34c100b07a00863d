import java.lang.management.ManagementFactory;

/** What a run makes stays small: rows are made with the object and used again. */
public final class RoomTest {
    private static final Check C = new Check();
    private static final com.sun.management.ThreadMXBean ROOM = (com.sun.management.ThreadMXBean) ManagementFactory.getThreadMXBean();
    private static final long ID = Thread.currentThread().getId();
    private static final int OBJECT = 8_000, RUN = 4_000;

    public static void main(String[] args) {
        run();
        long before = ROOM.getThreadAllocatedBytes(ID);
        EdgesOff x = made();
        long made = ROOM.getThreadAllocatedBytes(ID);
        used(x);
        long used = ROOM.getThreadAllocatedBytes(ID);
        C.holds("an object's bytes: " + (made - before), made - before <= OBJECT);
        C.holds("512 calls' bytes: " + (used - made), used - made <= RUN);
        C.end();
    }

    private static void run() {
        used(made());
    }

    private static EdgesOff made() {
        EdgesOff x = new EdgesOff();
        for (int i = 0; i < 8; i++) {
            x.piece(i % 6, i, 99 - i, i % 2 * 100 + i);
        }
        return x;
    }

    private static void used(EdgesOff x) {
        for (int i = 0; i < 14; i++) {
            x.sheet(i % 4, i % 3, 30);
            x.cell(i % 4, i, i);
            x.copy(i % 4, 0, i % 4, 1, 9);
            x.finds(i % 4, i % 3, 0, 7);
            for (int what = 0; what <= 7; what++) {
                x.tells(i % 4, i % 8, what);
            }
            x.film(i % 4, i % 8, 30);
            x.walk(i % 4);
            x.run(i % 8, 60, i % 5);
            x.all(0);
            x.all(3);
            x.meet(0, 1);
            for (int what = 0; what <= 3; what++) {
                x.jars(what);
            }
            x.can(0, 1);
            x.twos(6);
            x.toss(0, i % 2);
            x.mean(0);
            x.drawn(i, 40);
            x.chance(i, 20, 3, 0);
            x.image();
            x.back();
            x.count(1);
            x.taken(i % 8, 0);
            x.told(i % 8, 7);
            x.tide();
            x.feed('w');
            x.text();
        }
    }
}
