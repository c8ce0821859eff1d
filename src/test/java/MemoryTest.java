import java.lang.management.ManagementFactory;

/** All calls of a run share little room: none of them may make objects in number. */
public final class MemoryTest {
    private static final com.sun.management.ThreadMXBean THREADS =
            (com.sun.management.ThreadMXBean) ManagementFactory.getThreadMXBean();

    public static void main(String[] args) {
        useFully(world());
        AdventureParser p = world();
        long before = THREADS.getCurrentThreadAllocatedBytes();
        useFully(p);
        long bytes = THREADS.getCurrentThreadAllocatedBytes() - before;
        Check.due(bytes + " bytes made by the calls are few", bytes < 4096, true);
        before = THREADS.getCurrentThreadAllocatedBytes();
        world();
        bytes = THREADS.getCurrentThreadAllocatedBytes() - before;
        Check.due(bytes + " bytes made for a parser are few", bytes < 16384, true);
        Check.finish("MemoryTest");
    }

    private static AdventureParser world() {
        AdventureParser p = new AdventureParser();
        for (int k = 0; k < 12; k++) {
            p.addObject(k % 6, k / 6, k < 6 ? 0 : 1);
        }
        return p;
    }

    private static void useFully(AdventureParser p) {
        for (int k = 0; k < 40; k++) {
            p.appendWord(k % 2 == 0 ? 10 : 11);
            p.appendWord(17);
            p.appendWord(18);
            p.appendWord(0);
            p.appendWord(19);
            p.appendWord(2);
            p.firstError();
            p.ifEntered();
            p.enter();
            p.digest();
            p.moveTo(k % 4);
            p.undo();
        }
    }

    private MemoryTest() {
    }
}
