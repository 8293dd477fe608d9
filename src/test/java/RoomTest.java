import java.lang.management.ManagementFactory;

/** What the dearest run of 512 calls makes, so that rows are used again and not made again. */
public final class RoomTest {

    /**
     * The room of a run is 7.3 million fields and elements and 600,000 objects. An element takes a
     * byte or more, and an object twelve or more, so that so many bytes keep within both.
     */
    private static final long MOST_OF_A_RUN = 7_200_000L;

    /** Less than a row of an image of this test takes; a machine may make something of its own. */
    private static final long MOST_OF_ROUNDS = 1_000L;

    private static final Due DUE = new Due("RoomTest");

    public static void main(String[] args) {
        if (!(ManagementFactory.getThreadMXBean() instanceof com.sun.management.ThreadMXBean)) {
            System.out.println("RoomTest: this machine does not count what is made");
            return;
        }
        byte[] bytes = longImage();
        dearestRun(bytes);
        long before = made();
        Counted reader = dearestRun(bytes);
        long run = made() - before;
        DUE.isTrue("a run makes " + run + " bytes, few enough", run < MOST_OF_A_RUN);
        before = made();
        rounds(reader, 30);
        long again = made() - before;
        DUE.isTrue("rounds make " + again + " bytes, almost none", again < MOST_OF_ROUNDS);
        DUE.end();
    }

    private static long made() {
        com.sun.management.ThreadMXBean bean =
            (com.sun.management.ThreadMXBean) ManagementFactory.getThreadMXBean();
        return bean.getThreadAllocatedBytes(Thread.currentThread().getId());
    }

    private static byte[] longImage() {
        Model model = Model.small();
        int chain = 1;
        while (model.place(model.things.size() + 1) < 6000) {
            chain = model.add(Model.PAIR_CLASS, Model.FIELDS, Model.object(chain), 1);
        }
        model.specials[49] = Model.object(chain);
        return model.bytes();
    }

    /** Some 300 calls feed the image, the others read and write it over and over. */
    private static Counted dearestRun(byte[] bytes) {
        Counted reader = new Counted().feed(bytes);
        reader.read();
        rounds(reader, 10);
        return reader;
    }

    private static void rounds(Counted reader, int many) {
        for (int i = 0; i < many; i++) {
            reader.keep();
            reader.write();
            reader.read();
            reader.same();
            reader.reachable();
        }
    }
}
