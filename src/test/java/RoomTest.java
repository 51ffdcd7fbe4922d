import com.sun.management.ThreadMXBean;
import java.lang.management.ManagementFactory;

/** All calls of a run live in one room: calls make nothing, and an object is small. */
public final class RoomTest {
    private static final long MOST_BYTES_OF_AN_OBJECT = 40000;

    private static final Checks checks = new Checks("RoomTest");
    private static final ThreadMXBean threads = (ThreadMXBean) ManagementFactory.getThreadMXBean();

    public static void main(String[] args) {
        // What the machine itself makes when code runs for the first time is no concern here.
        for (int time = 0; time < 3; time++) {
            bytesOfCalls(new ParticleLines());
            bytesOfAnObject();
        }
        checks.part("room");
        checks.due("bytes that 512 calls make", bytesOfCalls(new ParticleLines()), bytesOfNothing());
        checks.holds("an object has few bytes", bytesOfAnObject() <= MOST_BYTES_OF_AN_OBJECT);
        checks.end();
    }

    private static long bytes() {
        return threads.getThreadAllocatedBytes(Thread.currentThread().getId());
    }

    private static long bytesOfNothing() {
        long ahead = bytes();
        return bytes() - ahead;
    }

    private static long bytesOfAnObject() {
        long ahead = bytes();
        ParticleLines made = new ParticleLines();
        long behind = bytes();
        return made.count(0) == 4 ? behind - ahead : Long.MAX_VALUE;
    }

    private static long bytesOfCalls(ParticleLines x) {
        long ahead = bytes();
        for (int round = 0; round < 20; round++) {
            x.begin(12, round, 3);
            x.set(1, round % 3);
            x.weigh(round % 12, round * 7);
            x.move(1, 5);
            x.observe(20, 90);
            x.resample();
            x.particleOf(3, 4);
            x.generationOf(0, 4);
            x.ancestor(2, 0, 1);
            x.common(0, 11);
            x.root();
            x.mean(0, 0);
            x.share(0, 5, 50, 1);
            x.would(round % 3, 5);
            x.count(3);
            x.type('r');
            x.type(';');
            x.fault(0);
            x.play();
            x.fault(2);
            x.undo();
            x.clearText();
            x.begin(0, 0, 0);
            x.observe(99, 1);
            x.type(0);
        }
        return bytes() - ahead;
    }
}
