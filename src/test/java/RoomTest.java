import com.sun.management.ThreadMXBean;
import java.lang.management.ManagementFactory;

/** All calls of a run live in one room: once the cars are there, no call makes objects. */
public final class RoomTest {
    private static final int CARS = 24;
    /** Far below what even one object in each round would take; above what the machine itself may need. */
    private static final long MOST_BYTES = 64 * 1024;

    public static void main(String[] args) {
        Checks checks = new Checks();
        checks.at("room");
        playCalls();
        ThreadMXBean threads = (ThreadMXBean) ManagementFactory.getThreadMXBean();
        long thread = Thread.currentThread().getId();
        ConsistBus bus = train();
        long before = threads.getThreadAllocatedBytes(thread);
        useTrain(bus);
        long used = threads.getThreadAllocatedBytes(thread) - before;
        checks.due("room for calls on a long train is small (" + used + " bytes)", used < MOST_BYTES, true);
        long start = threads.getThreadAllocatedBytes(thread);
        train();
        long built = threads.getThreadAllocatedBytes(thread) - start;
        checks.due("room for a long train is small (" + built + " bytes)", built < 4 * MOST_BYTES, true);
        checks.end();
    }

    private static void playCalls() {
        useTrain(train());
    }

    private static ConsistBus train() {
        ConsistBus bus = new ConsistBus();
        for (int id = 1; id <= CARS; id++) {
            bus.add(id, 65535);
            if (id > 1) {
                bus.couple(id - 1, 1, id, 0);
            }
        }
        return bus;
    }

    private static void useTrain(ConsistBus bus) {
        for (int k = 0; k < 20; k++) {
            bus.rounds(200, k % 3 == 0 ? 1 << k : 0);
            bus.put(1 + k, k & 3, k);
            bus.uncouple(12, 1);
            bus.rounds(20, 0);
            bus.couple(12, 1, 13, 0);
            bus.settled();
            bus.order(5, 5);
            bus.get(5, 5, 1);
            bus.side(5, 5, 1);
            bus.view(5, 1, 1);
            bus.directory(5, 5);
            bus.about(5, 0);
            bus.count(3);
            bus.reset(7);
        }
    }
}
