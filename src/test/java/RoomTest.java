import com.sun.management.ThreadMXBean;
import java.lang.management.ManagementFactory;

/** All calls of a run keep to the room: what is made is made in the constructor. */
public final class RoomTest {
    private static final int MOST_BYTES = 200_000;

    private RoomTest() {
    }

    public static void main(String[] args) {
        ThreadMXBean threads = (ThreadMXBean) ManagementFactory.getThreadMXBean();
        long thread = Thread.currentThread().getId();
        play(new NecklaceSisters());
        long before = threads.getThreadAllocatedBytes(thread);
        NecklaceSisters x = new NecklaceSisters();
        int answers = play(x);
        long made = threads.getThreadAllocatedBytes(thread) - before;
        Checks.same("room of " + made + " bytes, answers " + answers, "" + (made < MOST_BYTES), "true");
        Checks.end();
    }

    private static int play(NecklaceSisters x) {
        int answers = 0;
        for (int i = 0; i < 16; i++) {
            x.jewel(i / 4, 1 + i % 2);
        }
        for (int i = 0; i < 40; i++) {
            answers += x.simulate(i, 60) + x.runScript(3, 101012000070009L) + x.bestBreak();
            answers += x.fewest(0) + x.fewest(1) + x.divided(3) + x.leastGap(4) + x.divide();
            answers += x.save(i % 2) + x.bestRun() + x.ifGiven(0, 1);
        }
        for (char sign : "Nja1jb2c01d0t00r".toCharArray()) {
            answers += x.append(sign);
        }
        return answers + x.load() + x.about(4);
    }
}
