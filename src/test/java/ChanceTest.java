import java.util.Arrays;
import java.util.Collections;

/** Images changed here and there, always the same ones, and what the oracle says of them. */
public final class ChanceTest {

    private static final Due DUE = new Due("ChanceTest");
    private static final int NONE = ImageReader.NONE;

    private static long seed = 20261115;
    private static int wellFormed;
    private static int alike;

    public static void main(String[] args) {
        for (int i = 0; i < 12000; i++) {
            places(i);
        }
        DUE.isTrue("enough images are well formed", wellFormed > 2000);
        DUE.isTrue("enough images are refused", wellFormed < 10000);
        for (int i = 0; i < 3000; i++) {
            comparisons(i);
        }
        DUE.isTrue("enough images are the same", alike > 600);
        DUE.isTrue("enough images differ", alike < 2400);
        for (int i = 0; i < 300; i++) {
            callsOfEverySort();
        }
        DUE.end();
    }

    private static int below(int bound) {
        seed = seed * 6364136223846793005L + 1442695040888963407L;
        return (int) ((seed >>> 33) % bound);
    }

    /** A value that is likely to matter somewhere. */
    private static int value(Model model) {
        switch (below(6)) {
            case 0:
                return 0;
            case 1:
                return Model.number(below(20) - 2);
            case 2:
                return Model.number(below(1 << 24));
            case 3:
                return Model.number(below(5) * 1024 + below(8));
            default:
                return Model.object(1 + below(model.things.size() + below(30) / 29));
        }
    }

    private static Model image() {
        Model model = Model.small();
        for (int i = below(12); i > 0; i--) {
            switch (below(5)) {
                case 0:
                    model.add(Model.BYTES_CLASS, Model.BYTES, below(256), below(256));
                    break;
                case 1:
                    model.things.add(model.thing(Model.CONTEXT).copy());
                    break;
                case 2:
                    model.things.add(model.thing(Model.BLOCK).copy());
                    break;
                default:
                    model.add(Model.PAIR_CLASS, Model.FIELDS, value(model), value(model));
            }
        }
        for (int i = below(4); i > 0; i--) {
            model.specials[15 + below(35)] = value(model);
        }
        return model;
    }

    private static Model.Thing anyThing(Model model) {
        int from = below(3) == 0 ? 1 : Model.CHARACTERS;
        return model.thing(from + below(model.things.size() - from + 1));
    }

    private static void alter(Model model) {
        Model.Thing thing = anyThing(model);
        int size = thing.parts.length;
        switch (below(12)) {
            case 0:
                model.specials[below(50)] = value(model);
                break;
            case 1:
                thing.classValue = value(model);
                break;
            case 2:
                thing.kind = below(8) == 0 ? below(256) : 1 - thing.kind & 1;
                break;
            case 3:
                thing.parts = Arrays.copyOf(thing.parts, Math.max(0, size + below(5) - 2));
                break;
            default:
                if (size > 0) {
                    int i = below(size);
                    thing.parts[i] = thing.kind == Model.BYTES ? below(256) : value(model);
                }
        }
    }

    private static byte[] alterBytes(byte[] bytes) {
        switch (below(12)) {
            case 0:
                return Arrays.copyOf(bytes, below(bytes.length));
            case 1:
                return Arrays.copyOf(bytes, bytes.length + 1 + below(3));
            case 2:
                bytes[below(8)] = (byte) below(256);
                return bytes;
            case 3:
                bytes[below(bytes.length)] ^= (byte) (1 << below(8));
                return bytes;
            default:
                return bytes;
        }
    }

    private static void places(int run) {
        Model model = image();
        for (int i = below(4); i > 0; i--) {
            alter(model);
        }
        byte[] bytes = alterBytes(model.bytes());
        Oracle oracle = new Oracle(bytes);
        int want = oracle.place();
        ImageReader reader = new ImageReader();
        Model.feed(reader, bytes);
        DUE.is("image " + run + ": read()", reader.read(), want);
        if (want != NONE) {
            DUE.is("image " + run + ": objects()", reader.objects(), 0);
            return;
        }
        wellFormed++;
        DUE.is("image " + run + ": words()", reader.words(), oracle.words());
        DUE.is("image " + run + ": reachable()", reader.reachable(), oracle.reachable());
        written(run, reader, oracle);
    }

    private static void written(int run, ImageReader reader, Oracle oracle) {
        reader.keep();
        byte[] bytes = new byte[reader.write()];
        for (int i = 0; i < bytes.length; i++) {
            bytes[i] = (byte) reader.came(i);
        }
        Oracle after = new Oracle(bytes);
        DUE.is("image " + run + " written: place", after.place(), NONE);
        DUE.isTrue("image " + run + " written: text", after.canonical().equals(oracle.canonical()));
        DUE.is("image " + run + " written: read()", reader.read(), NONE);
        DUE.is("image " + run + " written: same()", reader.same(), true);
        DUE.is("image " + run + " written: objects()", reader.objects(), oracle.reachable());
    }

    /** The objects in another order, with all values that tell them. */
    private static Model shuffled(Model model) {
        int count = model.things.size();
        Integer[] order = new Integer[count];
        Arrays.setAll(order, i -> i);
        for (int i = count - 1; i > 0; i--) {
            Collections.swap(Arrays.asList(order), i, below(i + 1));
        }
        Model moved = model.copy();
        for (int i = 0; i < count; i++) {
            moved.things.set(order[i], model.things.get(i).copy());
        }
        for (int k = 0; k < 50; k++) {
            moved.specials[k] = moved(moved.specials[k], order);
        }
        for (Model.Thing thing : moved.things) {
            thing.classValue = moved(thing.classValue, order);
            for (int i = 0; i < thing.parts.length && thing.kind == Model.FIELDS; i++) {
                thing.parts[i] = moved(thing.parts[i], order);
            }
        }
        return moved;
    }

    private static int moved(int value, Integer[] order) {
        boolean object = value > 0 && value % 2 == 0 && value / 2 <= order.length;
        return object ? Model.object(order[value / 2 - 1] + 1) : value;
    }

    private static void comparisons(int run) {
        Model one = image();
        Model two = shuffled(one);
        if (below(2) == 0) {
            alter(two);
        }
        ImageReader reader = new ImageReader();
        Oracle first = new Oracle(one.bytes());
        Oracle second = new Oracle(two.bytes());
        if (first.place() != NONE || second.place() != NONE) {
            return;
        }
        DUE.is("pair " + run + ": read()", one.read(reader), NONE);
        reader.keep();
        DUE.is("pair " + run + ": read()", two.read(reader), NONE);
        boolean want = first.canonical().equals(second.canonical());
        alike += want ? 1 : 0;
        DUE.is("pair " + run + ": same()", reader.same(), want);
    }

    private static int anyInt() {
        switch (below(5)) {
            case 0:
                return below(60) - 5;
            case 1:
                return Integer.MIN_VALUE + below(3);
            case 2:
                return Integer.MAX_VALUE - below(3);
            case 3:
                return below(3000);
            default:
                return (below(65536) << 16) | below(65536);
        }
    }

    /** Nothing but what the document names is ever thrown, whatever comes behind what. */
    private static void callsOfEverySort() {
        ImageReader reader = new ImageReader();
        Model.feed(reader, image().bytes());
        for (int i = 0; i < 350; i++) {
            call(reader);
        }
    }

    private static void feed(ImageReader reader) {
        try {
            reader.feed(anyInt(), anyInt(), anyInt(), anyInt(), anyInt());
        } catch (IllegalStateException e) {
            DUE.isTrue("feed throws only when there is much", reader.came(65516) != NONE);
        }
    }

    private static void end(ImageReader reader, int n) {
        try {
            reader.end(n);
        } catch (IllegalArgumentException e) {
            DUE.isTrue("end throws only when there is less", n < 0 || reader.came(n - 1) == NONE);
        }
    }

    private static void call(ImageReader reader) {
        int a = anyInt();
        int b = anyInt();
        switch (below(20)) {
            case 0: feed(reader); break;
            case 1: end(reader, a); break;
            case 2: reader.change(below(2) == 0 ? a : 8 + below(2000), below(256)); break;
            case 3: case 4: reader.read(); break;
            case 5: reader.objects(); break;
            case 6: reader.words(); break;
            case 7: reader.special(a); break;
            case 8: reader.kind(a); break;
            case 9: reader.classOf(a); break;
            case 10: reader.size(a); break;
            case 11: reader.field(a, b); break;
            case 12: reader.byteAt(a, b); break;
            case 13: reader.reachable(); break;
            case 14: case 15: case 16: reader.write(); break;
            case 17: reader.came(a); break;
            case 18: reader.keep(); break;
            default: reader.same();
        }
    }
}
