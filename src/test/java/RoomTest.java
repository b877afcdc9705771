import com.sun.management.ThreadMXBean;
import java.lang.management.ManagementFactory;

/** What a run of the dearest calls allocates stays far below the room that all calls share. */
public final class RoomTest {
    private static final String TEXT = "tank width 16 height 10 fade 500 wall 8"
            + ";train 0 0 999 100 7 0 0 9999;train 15 9 500 300 9 10 0 9999"
            + ";train 1 8 999 100 7 0 0 9999;train 14 1 500 300 9 10 0 9999;slit 0 9"
            + ";mirror left 50;mirror right 60;mirror top 70;mirror bottom 80;gauge 3 3";
    private static final int MAX_BYTES_OF_A_RUN = 2_000_000;

    private RoomTest() {
    }

    public static void main(String[] args) {
        ThreadMXBean threads = (ThreadMXBean) ManagementFactory.getThreadMXBean();
        Bench b = new Bench();
        // The first run pays for what the machine loads, not the program.
        runOf(40);
        long thread = Thread.currentThread().getId();
        long before = threads.getThreadAllocatedBytes(thread);
        runOf(512);
        long used = threads.getThreadAllocatedBytes(thread) - before;
        System.out.println("a run of 512 calls allocates " + used + " bytes");
        b.same("within the room", used < MAX_BYTES_OF_A_RUN, true);
        b.end();
    }

    private static void runOf(int calls) {
        RippleTank t = Bench.loaded(TEXT);
        for (int call = 0; call < calls; call++) {
            switch (call % 16) {
                case 0: Bench.load(t, TEXT); break;
                case 1: t.advance(5); break;
                case 2: t.nodes(40, 9999); break;
                case 3: t.nodeGroups(40, 9999); break;
                case 4: t.strongest(159, 40); break;
                case 5: t.writeMap(40); break;
                case 6: t.bestPlace(1, 3, 3, 40); break;
                case 7: t.bestPhase(1, 3, 3, 40); break;
                case 8: t.bestRow(3, 3, 40); break;
                case 9: t.save(0); break;
                case 10: t.restore(0); break;
                case 11: t.rhythm(0, 40); break;
                case 12: t.isMark(3, 3, 40, 50); break;
                case 13: t.turnRow(3); break;
                case 14: t.undo(); break;
                default: t.fringes(3, 40);
            }
        }
    }
}
