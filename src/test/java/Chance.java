import java.util.Arrays;
import java.util.Collections;

/** Numbers and images that look like chance, but are the same at every run of a test. */
final class Chance {

    private long seed;

    Chance(long seed) {
        this.seed = seed;
    }

    int below(int bound) {
        seed = seed * 6364136223846793005L + 1442695040888963407L;
        return (int) ((seed >>> 33) % bound);
    }

    /** A value that is likely to matter somewhere. */
    private int value(Model model) {
        switch (below(6)) {
            case 0:
                return 0;
            case 1:
                return Model.number(below(20) - 2);
            case 2:
                return Model.number(below(1 << 24));
            case 3:
                return Model.number(below(5) * 1024 + below(8));
            default:
                return Model.object(1 + below(model.things.size() + below(30) / 29));
        }
    }

    Model image() {
        Model model = Model.small();
        for (int i = below(12); i > 0; i--) {
            switch (below(5)) {
                case 0:
                    model.add(Model.BYTES_CLASS, Model.BYTES, below(256), below(256));
                    break;
                case 1:
                    model.things.add(model.thing(Model.CONTEXT).copy());
                    break;
                case 2:
                    model.things.add(model.thing(Model.BLOCK).copy());
                    break;
                default:
                    model.add(Model.PAIR_CLASS, Model.FIELDS, value(model), value(model));
            }
        }
        for (int i = below(4); i > 0; i--) {
            model.specials[15 + below(35)] = value(model);
        }
        return model;
    }

    private Model.Thing anyThing(Model model) {
        int from = below(3) == 0 ? 1 : Model.CHARACTERS;
        return model.thing(from + below(model.things.size() - from + 1));
    }

    void alter(Model model) {
        Model.Thing thing = anyThing(model);
        int size = thing.parts.length;
        switch (below(12)) {
            case 0:
                model.specials[below(50)] = value(model);
                break;
            case 1:
                thing.classValue = value(model);
                break;
            case 2:
                thing.kind = below(8) == 0 ? below(256) : 1 - thing.kind & 1;
                break;
            case 3:
                thing.parts = Arrays.copyOf(thing.parts, Math.max(0, size + below(5) - 2));
                break;
            default:
                if (size > 0) {
                    int i = below(size);
                    thing.parts[i] = thing.kind == Model.BYTES ? below(256) : value(model);
                }
        }
    }

    byte[] alterBytes(byte[] bytes) {
        switch (below(12)) {
            case 0:
                return Arrays.copyOf(bytes, below(bytes.length));
            case 1:
                return Arrays.copyOf(bytes, bytes.length + 1 + below(3));
            case 2:
                bytes[below(8)] = (byte) below(256);
                return bytes;
            case 3:
                bytes[below(bytes.length)] ^= (byte) (1 << below(8));
                return bytes;
            default:
                return bytes;
        }
    }

    /** The objects in another order, with all values that tell them. */
    Model shuffled(Model model) {
        int count = model.things.size();
        Integer[] order = new Integer[count];
        Arrays.setAll(order, i -> i);
        for (int i = count - 1; i > 0; i--) {
            Collections.swap(Arrays.asList(order), i, below(i + 1));
        }
        Model moved = model.copy();
        for (int i = 0; i < count; i++) {
            moved.things.set(order[i], model.things.get(i).copy());
        }
        for (int k = 0; k < 50; k++) {
            moved.specials[k] = moved(moved.specials[k], order);
        }
        for (Model.Thing thing : moved.things) {
            thing.classValue = moved(thing.classValue, order);
            for (int i = 0; i < thing.parts.length && thing.kind == Model.FIELDS; i++) {
                thing.parts[i] = moved(thing.parts[i], order);
            }
        }
        return moved;
    }

    private static int moved(int value, Integer[] order) {
        boolean object = value > 0 && value % 2 == 0 && value / 2 <= order.length;
        return object ? Model.object(order[value / 2 - 1] + 1) : value;
    }

    int anyInt() {
        switch (below(5)) {
            case 0:
                return below(60) - 5;
            case 1:
                return Integer.MIN_VALUE + below(3);
            case 2:
                return Integer.MAX_VALUE - below(3);
            case 3:
                return below(3000);
            default:
                return (below(65536) << 16) | below(65536);
        }
    }
}
