import com.sun.management.ThreadMXBean;
import java.lang.management.ManagementFactory;

/** All calls of a run live in one room of some 600,000 objects: the dearest run of 512 calls takes far less. */
public final class RoomTest {
    private static final int CARS = 24;
    private static final int MOST_CALLS = 512;
    private static final int LEAST_OBJECT = 16;
    private static final long ROOM = 600_000L * LEAST_OBJECT;

    private final ConsistBus bus = new ConsistBus();
    private int calls = 0;

    public static void main(String[] args) {
        Checks checks = new Checks();
        checks.at("room");
        ThreadMXBean threads = (ThreadMXBean) ManagementFactory.getThreadMXBean();
        long thread = Thread.currentThread().getId();
        long before = threads.getThreadAllocatedBytes(thread);
        RoomTest run = new RoomTest();
        run.makeTrain();
        run.useTrain();
        long used = threads.getThreadAllocatedBytes(thread) - before;
        checks.due("512 calls take less than the room (" + used + " bytes of " + ROOM + ")", used < ROOM, true);
        checks.due("calls made", run.calls, MOST_CALLS);
        checks.end();
    }

    private void makeTrain() {
        for (int id = 1; id <= CARS; id++) {
            bus.add(id, 65535);
            calls++;
        }
        for (int id = 1; id < CARS; id++) {
            bus.couple(id, 1, id + 1, 0);
            calls++;
        }
    }

    private void useTrain() {
        for (int k = 0; calls < MOST_CALLS; k++) {
            useOnce(k);
            calls++;
        }
    }

    /** Mostly rounds, which are the dearest; and each of the others now and then, with a train that changes. */
    private void useOnce(int k) {
        switch (k % 32) {
            case 1 -> bus.uncouple(12, 1);
            case 3 -> bus.couple(12, 1, 13, 0);
            case 5 -> bus.settled();
            case 7 -> bus.order(5, 5);
            case 9 -> bus.get(5, 5, 1);
            case 11 -> bus.side(5, 5, 1);
            case 13 -> bus.view(5, 1, 1);
            case 15 -> bus.directory(5, 5);
            case 17 -> bus.about(5, 0);
            case 19 -> bus.count(3);
            case 21 -> bus.reset(7);
            case 23 -> bus.put(5, 3, 255);
            default -> bus.rounds(200, k % 3 == 0 ? 1 << k % 24 : 0);
        }
    }
}
