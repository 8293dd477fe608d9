import java.util.Arrays;

/** Promises 14 and 15: reachable and write. */
public final class WriteTest {

    private static final Due DUE = new Due("WriteTest");
    private static final int NONE = ImageReader.NONE;

    public static void main(String[] args) {
        allButTheBlockIsReachable();
        eachWayReaches();
        writeLeavesTheRestOut();
        writeNumbersAnew();
        writeTakesThePlaceOfBytes();
        writeOfNothing();
        longChainsAreReached();
        DUE.end();
    }

    private static byte[] written(ImageReader reader) {
        byte[] bytes = new byte[reader.write()];
        for (int i = 0; i < bytes.length; i++) {
            bytes[i] = (byte) reader.came(i);
        }
        DUE.is("came behind the last", reader.came(bytes.length), NONE);
        return bytes;
    }

    private static ImageReader readerOf(Model model) {
        ImageReader reader = new ImageReader();
        DUE.is("read()", model.read(reader), NONE);
        return reader;
    }

    private static void allButTheBlockIsReachable() {
        ImageReader reader = readerOf(Model.small());
        DUE.is("reachable()", reader.reachable(), Model.SMALL_COUNT - 1);
        DUE.is("reachable() again", reader.reachable(), Model.SMALL_COUNT - 1);
        DUE.is("objects() stay", reader.objects(), Model.SMALL_COUNT);
    }

    /** By any special value, by a class, by a field; not by bytes, and not from what is not reached. */
    private static void eachWayReaches() {
        for (int k = 15; k < 50; k++) {
            Model model = Model.small();
            model.specials[k] = Model.object(Model.BLOCK);
            DUE.is("reachable() by S" + k, readerOf(model).reachable(), Model.SMALL_COUNT);
        }
        Model model = Model.small();
        int own = model.add(Model.CLASS_CLASS, Model.FIELDS, 0, 0, Model.number(1024));
        int user = model.add(own, Model.FIELDS, Model.object(own));
        DUE.is("both apart", readerOf(model).reachable(), Model.SMALL_COUNT - 1);
        model.specials[30] = Model.object(user);
        model.thing(user).parts[0] = 0;
        DUE.is("by its class", readerOf(model).reachable(), Model.SMALL_COUNT + 1);
        model.specials[30] = Model.object(own);
        DUE.is("the class alone", readerOf(model).reachable(), Model.SMALL_COUNT);
        model.thing(Model.CHARACTERS).parts[255] = Model.object(user);
        DUE.is("by the last field", readerOf(model).reachable(), Model.SMALL_COUNT + 1);
        Model bytes = Model.small();
        bytes.thing(Model.CODE).parts = new int[] {0, 0, 0, 2 * Model.BLOCK};
        DUE.is("not by bytes", readerOf(bytes).reachable(), Model.SMALL_COUNT - 1);
        Model rings = Model.small();
        int one = rings.add(Model.PAIR_CLASS, Model.FIELDS, 0, 0);
        rings.thing(one).parts[0] = Model.object(one + 1);
        rings.add(Model.PAIR_CLASS, Model.FIELDS, Model.object(one), Model.object(one + 1));
        DUE.is("a ring apart", readerOf(rings).reachable(), Model.SMALL_COUNT - 1);
        rings.specials[49] = Model.object(one + 1);
        DUE.is("a ring reached", readerOf(rings).reachable(), Model.SMALL_COUNT + 1);
    }

    private static void writeLeavesTheRestOut() {
        Model model = Model.small();
        model.w = 17;
        model.e = 13;
        ImageReader reader = readerOf(model);
        Model want = model.copy();
        want.things.remove(Model.BLOCK - 1);
        DUE.isTrue("the written bytes", Arrays.equals(written(reader), want.bytes()));
        DUE.is("write() leaves objects()", reader.objects(), Model.SMALL_COUNT);
        DUE.is("write() leaves kind(29)", reader.kind(Model.BLOCK), 3);
        DUE.is("write() again", reader.write(), want.bytes().length);
        DUE.is("read() of what was written", reader.read(), NONE);
        DUE.is("objects() of what was written", reader.objects(), Model.SMALL_COUNT - 1);
        DUE.is("reachable() of what was written", reader.reachable(), Model.SMALL_COUNT - 1);
        DUE.isTrue("written once more", Arrays.equals(written(reader), want.bytes()));
    }

    /** The same image with an object that nothing reaches before each of the others. */
    private static void writeNumbersAnew() {
        Model want = Model.small();
        want.specials[15] = Model.object(Model.BLOCK);
        Model gaps = new Model();
        for (int k = 0; k < 50; k++) {
            gaps.specials[k] = doubled(want.specials[k]);
        }
        for (Model.Thing thing : want.things) {
            gaps.things.add(new Model.Thing(doubled(Model.object(Model.EMPTY_CLASS)), Model.FIELDS));
            Model.Thing moved = thing.copy();
            moved.classValue = doubled(thing.classValue);
            for (int i = 0; i < moved.parts.length && moved.kind == Model.FIELDS; i++) {
                moved.parts[i] = doubled(moved.parts[i]);
            }
            gaps.things.add(moved);
        }
        ImageReader reader = readerOf(gaps);
        DUE.is("gaps: objects()", reader.objects(), 2 * Model.SMALL_COUNT);
        DUE.is("gaps: reachable()", reader.reachable(), Model.SMALL_COUNT);
        DUE.isTrue("gaps: the written bytes", Arrays.equals(written(reader), want.bytes()));
    }

    private static int doubled(int value) {
        return (value & 1) == 0 ? 2 * value : value;
    }

    private static void writeTakesThePlaceOfBytes() {
        Model model = Model.small();
        model.specials[49] = Model.object(Model.BLOCK);
        ImageReader reader = readerOf(model);
        int length = model.bytes().length;
        for (int i = 0; i < 200; i++) {
            reader.feed(-1, -1, -1, -1, -1);
        }
        DUE.is("write() over more bytes", reader.write(), length);
        DUE.is("end() tells as many", reader.end(length), length);
        DUE.is("came(length)", reader.came(length), NONE);
        reader.feed(0x05060708, 0, 0, 0, 0);
        DUE.is("fed behind the written", reader.came(length), 5);
        reader.end(3);
        DUE.is("write() over fewer bytes", reader.write(), length);
        DUE.is("change() of the written", reader.change(4, 13), 12);
        DUE.is("read() of the changed", reader.read(), NONE);
        reader.write();
        DUE.is("w stays", reader.came(4), 13);
    }

    private static void writeOfNothing() {
        ImageReader reader = new ImageReader();
        reader.feed(0x09080706, 0, 0, 0, 0);
        DUE.is("no image: write()", reader.write(), NONE);
        DUE.is("no image: came(0)", reader.came(0), 9);
        DUE.is("no image: end(20)", reader.end(20), 20);
        reader.feed(1, 1, 1, 1, 1);
        DUE.is("refused: read()", reader.read(), 0);
        DUE.is("refused: write()", reader.write(), NONE);
        DUE.is("refused: reachable()", reader.reachable(), 0);
    }

    private static void longChainsAreReached() {
        Model model = Model.small();
        int first = Model.SMALL_COUNT + 1;
        for (int i = 0; i < 380; i++) {
            model.add(Model.PAIR_CLASS, Model.FIELDS, Model.object(first + i + 1), Model.number(i));
        }
        model.add(Model.EMPTY_CLASS, Model.FIELDS);
        DUE.is("a chain apart", readerOf(model).reachable(), Model.SMALL_COUNT - 1);
        model.specials[33] = Model.object(first);
        DUE.is("a chain", readerOf(model).reachable(), Model.SMALL_COUNT + 380);
        model.thing(first + 100).parts[0] = 0;
        ImageReader reader = readerOf(model);
        DUE.is("a broken chain", reader.reachable(), Model.SMALL_COUNT + 100);
        Model want = model.copy();
        want.things.subList(first + 100, want.things.size()).clear();
        want.things.remove(Model.BLOCK - 1);
        want.specials[33] -= 2;
        for (int i = 0; i < 100; i++) {
            want.thing(first + i - 1).parts[0] -= 2;
        }
        DUE.isTrue("a broken chain written", Arrays.equals(written(reader), want.bytes()));
    }
}
