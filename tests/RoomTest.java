import java.lang.management.ManagementFactory;

/**
 * All calls of one run live in one room of some 600,000 objects and 7.3 million fields and elements. What 512 calls
 * make is measured in bytes here: there are never more fields and elements than bytes, and an object takes 16.
 */
final class RoomTest {
    private static final long MOST_BYTES = 7_300_000;

    public static void main(String[] args) {
        if (!(ManagementFactory.getThreadMXBean() instanceof com.sun.management.ThreadMXBean bean)
                || !bean.isThreadAllocatedMemorySupported()) {
            System.out.println("RoomTest: this machine does not tell what is allocated; nothing was measured");
            return;
        }
        String[] paths = {"/%4a/%4a/%4a/%4a/%4a/%4a/%4a/%4a/", "/%4a/./%4a/./%4a/%4a/%4a/.",
            "/d:e/%4A/%4A/%4A/../%4A/%4A/%4A", "/%4a/%4A/%4a/%4A/%4a/%4A/%4a/%4A", "/a/../a/../a/../a/..", "/"};
        for (String path : paths) {
            measure(bean, path, path);
            measure(bean, "/", path);
        }
        Check.end("RoomTest");
    }

    private static void measure(com.sun.management.ThreadMXBean bean, String base, String path) {
        for (int round = 0; round < 2; round++) {
            long before = bean.getCurrentThreadAllocatedBytes();
            Addressloom x = new Addressloom();
            Check.weave(x, 0, 4, 6, base, 6, 5);
            Check.draft(x, 4, 6, path, 6, 5);
            for (int cell = 1; cell < 6; cell++) {
                x.weave(cell);
            }
            for (int call = 0; call < 470; call++) {
                x.digest();
            }
            long made = bean.getCurrentThreadAllocatedBytes() - before;
            Check.due(made + " bytes for " + base + " and " + path + " fit into the room", made < MOST_BYTES, true);
        }
    }
}
