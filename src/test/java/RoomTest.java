import java.lang.management.ManagementFactory;

/** What the dearest run of 512 calls makes, so that rows are used again and not made again. */
public final class RoomTest {

    /** 7.3 million elements of four bytes each, the room in which all calls of a run live. */
    private static final long MOST_OF_A_RUN = 4 * 7_300_000L;

    public static void main(String[] args) {
        Due due = new Due("RoomTest");
        if (!(ManagementFactory.getThreadMXBean() instanceof com.sun.management.ThreadMXBean)) {
            System.out.println("RoomTest: this machine does not count what is made");
            return;
        }
        byte[] bytes = longImage();
        dearestRun(bytes);
        long before = made();
        dearestRun(bytes);
        long run = made() - before;
        due.isTrue("a run makes " + run + " bytes, few enough", run < MOST_OF_A_RUN);
        due.end();
    }

    private static long made() {
        com.sun.management.ThreadMXBean bean =
            (com.sun.management.ThreadMXBean) ManagementFactory.getThreadMXBean();
        return bean.getThreadAllocatedBytes(Thread.currentThread().getId());
    }

    private static byte[] longImage() {
        Model model = Model.small();
        int chain = 1;
        while (model.place(model.things.size() + 1) < 6000) {
            chain = model.add(Model.PAIR_CLASS, Model.FIELDS, Model.object(chain), 1);
        }
        model.specials[49] = Model.object(chain);
        return model.bytes();
    }

    /** Some 300 calls feed the image, the others read and write it over and over. */
    private static void dearestRun(byte[] bytes) {
        Counted reader = new Counted().feed(bytes);
        reader.read();
        for (int i = 0; i < 40; i++) {
            reader.keep();
            reader.write();
            reader.read();
            reader.same();
            reader.reachable();
        }
    }
}
