import java.io.ByteArrayOutputStream;
import java.util.ArrayList;
import java.util.Arrays;
import java.util.Collections;
import java.util.List;
import java.util.function.IntUnaryOperator;

/** An image as the tests write it down: every part may be set to anything, right or wrong. */
final class Model {

    static final int FIELDS = 0;
    static final int BYTES = 1;

    /** The objects of a small well-formed image, as small() makes them. */
    static final int PLAIN_CLASS = 3;
    static final int BYTES_CLASS = 4;
    static final int CLASS_CLASS = 5;
    static final int PAIR_CLASS = 6;
    static final int EMPTY_CLASS = 7;
    static final int METHOD_CONTEXT_CLASS = 8;
    static final int BLOCK_CONTEXT_CLASS = 9;
    static final int CHARACTERS = 14;
    static final int SCHEDULER = 15;
    static final int LISTS = 16;
    static final int FIRST_LIST = 17;
    static final int PROCESS = 25;
    static final int CODE = 26;
    static final int METHOD = 27;
    static final int CONTEXT = 28;
    static final int BLOCK = 29;
    static final int SMALL_COUNT = 29;

    static final int ARGUMENTS = 2;
    static final int TEMPORARIES = 3;
    static final int DEPTH = 4;

    static final class Thing {
        int classValue;
        int kind;
        int[] parts;

        Thing(int classValue, int kind, int... parts) {
            this.classValue = classValue;
            this.kind = kind;
            this.parts = parts;
        }

        Thing copy() {
            return new Thing(classValue, kind, parts.clone());
        }
    }

    int w = 12;
    int e = 10;
    final int[] specials = new int[50];
    final List<Thing> things = new ArrayList<>();

    static int number(int n) {
        return 2 * n + 1;
    }

    static int object(int k) {
        return 2 * k;
    }

    static int methodHead(int a, int t, int d, int p) {
        return number(a + 16 * t + 512 * d + 32768 * p);
    }

    /** Object k, from 1 on. */
    Thing thing(int k) {
        return things.get(k - 1);
    }

    int add(int classObject, int kind, int... parts) {
        things.add(new Thing(object(classObject), kind, parts));
        return things.size();
    }

    Model copy() {
        Model copy = new Model();
        copy.w = w;
        copy.e = e;
        System.arraycopy(specials, 0, copy.specials, 0, specials.length);
        for (Thing thing : things) {
            copy.things.add(thing.copy());
        }
        return copy;
    }

    /** The same image with its objects numbered anew: object k becomes object numbers(k). */
    private Model renumbered(IntUnaryOperator numbers) {
        IntUnaryOperator values = value ->
            (value & 1) != 0 || value == 0 ? value : object(numbers.applyAsInt(value / 2));
        Model model = copy();
        Arrays.setAll(model.specials, k -> values.applyAsInt(specials[k]));
        for (Thing thing : model.things) {
            thing.classValue = values.applyAsInt(thing.classValue);
            if (thing.kind == FIELDS) {
                thing.parts = Arrays.stream(thing.parts).map(values).toArray();
            }
        }
        return model;
    }

    /** The same image with its last object first. */
    Model reversed() {
        Model model = renumbered(k -> things.size() + 1 - k);
        Collections.reverse(model.things);
        return model;
    }

    /** The same image behind one more object that is of no use to it. */
    Model behind(Thing first) {
        Model model = renumbered(k -> k + 1);
        model.things.add(0, first);
        return model;
    }

    static int specialPlace(int k) {
        return 8 + 4 * k;
    }

    int place(int k) {
        int at = 208;
        for (int i = 1; i < k; i++) {
            at += 7 + thing(i).parts.length * (thing(i).kind == BYTES ? 1 : 4);
        }
        return at;
    }

    int fieldPlace(int k, int i) {
        return place(k) + 7 + 4 * i;
    }

    /** How many words the objects take. */
    int words() {
        int words = 0;
        for (Thing thing : things) {
            int size = thing.parts.length;
            words += 4 + (thing.kind == BYTES ? (int) Math.ceil(size / 4.0) : size);
        }
        return words;
    }

    /** The most words for the fewest bytes: objects without fields, as many as these words hold. */
    Model fillWords(int words) {
        for (int left = words - words(); left >= 4; left -= 4) {
            add(EMPTY_CLASS, FIELDS);
        }
        return this;
    }

    Model fillObjects(int objects) {
        while (things.size() < objects) {
            add(EMPTY_CLASS, FIELDS);
        }
        return this;
    }

    byte[] bytes() {
        ByteArrayOutputStream out = new ByteArrayOutputStream();
        for (int b : new int[] {77, 77, 1, 0, w, e, things.size() >> 8, things.size()}) {
            out.write(b);
        }
        for (int value : specials) {
            word(out, value);
        }
        for (Thing thing : things) {
            word(out, thing.classValue);
            out.write(thing.kind);
            out.write(thing.parts.length >> 8);
            out.write(thing.parts.length);
            for (int part : thing.parts) {
                if (thing.kind == BYTES) {
                    out.write(part);
                } else {
                    word(out, part);
                }
            }
        }
        return out.toByteArray();
    }

    private static void word(ByteArrayOutputStream out, int value) {
        out.write(value >>> 24);
        out.write(value >>> 16);
        out.write(value >>> 8);
        out.write(value);
    }

    private static int classWith(Model model, int shape) {
        return model.add(CLASS_CLASS, FIELDS, 0, 0, number(shape));
    }

    /** A small well-formed image in which everything is reachable but the block context. */
    static Model small() {
        Model model = new Model();
        model.add(EMPTY_CLASS, FIELDS);
        model.add(EMPTY_CLASS, FIELDS);
        for (int shape : new int[] {1024, 3072, 1027, 2, 0, 1029, 1030, 0, 255, 1279, 3}) {
            classWith(model, shape);
        }
        model.add(PLAIN_CLASS, FIELDS, new int[256]);
        model.add(PAIR_CLASS, FIELDS, object(LISTS), object(PROCESS));
        int[] lists = new int[8];
        for (int i = 0; i < 8; i++) {
            lists[i] = object(FIRST_LIST + i);
        }
        model.add(PLAIN_CLASS, FIELDS, lists);
        for (int i = 0; i < 8; i++) {
            model.add(PAIR_CLASS, FIELDS, 0, 0);
        }
        model.add(PLAIN_CLASS, FIELDS, 0, object(CONTEXT), number(5), 0);
        model.add(BYTES_CLASS, BYTES, 1, 128, 255, 0, 7);
        model.add(PLAIN_CLASS, FIELDS, methodHead(ARGUMENTS, TEMPORARIES, DEPTH, 9), object(CODE));
        model.add(METHOD_CONTEXT_CLASS, FIELDS, 0, number(0), number(4), object(METHOD), object(1),
            number(11), number(12), number(13), number(14), 0, 0, 0);
        model.add(BLOCK_CONTEXT_CLASS, FIELDS, object(CONTEXT), 0, number(1), number(15), number(3),
            object(CONTEXT), number(21), 0, 0, 0);
        for (int k = 0; k < 15; k++) {
            model.specials[k] = object(k + 1);
        }
        model.specials[20] = number(-3);
        model.specials[49] = object(METHOD);
        return model;
    }
}
