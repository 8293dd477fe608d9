import java.lang.management.ManagementFactory;

/** What the dearest run of 512 calls makes, so that rows are used again and not made again. */
public final class RoomTest {

    /** Far below the room of a run, and far above what one reader needs. */
    private static final long MOST_BYTES_MADE = 3_000_000;

    public static void main(String[] args) {
        Due due = new Due("RoomTest");
        if (!(ManagementFactory.getThreadMXBean() instanceof com.sun.management.ThreadMXBean)) {
            System.out.println("RoomTest: this machine does not count what is made");
            return;
        }
        dearestRun();
        long before = made();
        dearestRun();
        long after = made();
        due.isTrue("a run makes " + (after - before) + " bytes", after - before < MOST_BYTES_MADE);
        before = made();
        for (int i = 0; i < 500; i++) {
            new ImageReader();
        }
        after = made();
        due.isTrue("500 readers make " + (after - before), after - before < 4 * MOST_BYTES_MADE);
        due.end();
    }

    private static long made() {
        com.sun.management.ThreadMXBean bean =
            (com.sun.management.ThreadMXBean) ManagementFactory.getThreadMXBean();
        return bean.getThreadAllocatedBytes(Thread.currentThread().getId());
    }

    private static void dearestRun() {
        Model model = Model.small();
        model.w = 18;
        model.e = 14;
        int chain = 0;
        while (model.place(model.things.size() + 1) < 6000) {
            chain = model.add(Model.PAIR_CLASS, Model.FIELDS, Model.object(Math.max(1, chain)), 1);
        }
        model.specials[49] = Model.object(chain);
        ImageReader reader = new ImageReader();
        model.read(reader);
        for (int i = 0; i < 40; i++) {
            reader.keep();
            reader.write();
            reader.read();
            reader.same();
            reader.reachable();
        }
    }
}
