import java.util.Arrays;

/** Promise 5: read, and every rule by which an image is refused, at its place. */
public final class RefusalTest {

    private static final Due DUE = new Due("RefusalTest");

    public static void main(String[] args) {
        readUsesTheBytesUp();
        rule1Head();
        rule2Cut();
        rule2Values();
        rule3Rest();
        rule4Room();
        rule5Specials();
        rule5Classes();
        rule6Classes();
        rule6Methods();
        rule6MethodContexts();
        rule6BlockContexts();
        rule7Scheduler();
        firstRuleComesFirst();
        DUE.end();
    }

    private static void expect(String what, Model model, int place) {
        DUE.is(what + ": read()", model.read(new ImageReader()), place);
    }

    private static void expect(String what, byte[] bytes, int place) {
        ImageReader reader = new ImageReader();
        Model.feed(reader, bytes);
        DUE.is(what + ": read()", reader.read(), place);
    }

    private static void readUsesTheBytesUp() {
        ImageReader reader = new ImageReader();
        Model small = Model.small();
        DUE.is("small: read()", small.read(reader), ImageReader.NONE);
        DUE.is("used up: came(0)", reader.came(0), ImageReader.NONE);
        DUE.is("used up: read()", reader.read(), 0);
        DUE.is("the image stays: objects()", reader.objects(), Model.SMALL_COUNT);
        Model bad = Model.small();
        bad.specials[20] = 2 * (Model.SMALL_COUNT + 1);
        bad.specials[0] = 4;
        DUE.is("bad: read()", bad.read(reader), Model.specialPlace(20));
        DUE.is("refused is used up: end(0)", reader.end(0), 0);
        DUE.is("refused leaves special(0)", reader.special(0), 2);
        DUE.is("refused leaves special(20)", reader.special(20), Model.number(-3));
        Model longer = Model.small();
        longer.add(Model.PLAIN_CLASS, Model.FIELDS, 1, 3, 5);
        DUE.is("longer: read()", longer.read(reader), ImageReader.NONE);
        DUE.is("longer is at hand: objects()", reader.objects(), Model.SMALL_COUNT + 1);
    }

    private static byte[] with(int i, int b) {
        byte[] bytes = Model.small().bytes();
        bytes[i] = (byte) b;
        return bytes;
    }

    private static void rule1Head() {
        byte[] good = Model.small().bytes();
        for (int n = 0; n < 8; n++) {
            expect("head of " + n, Arrays.copyOf(good, n), n);
        }
        int[][] wrong = {{0, 76}, {0, 78}, {1, 76}, {1, 78}, {1, 205}, {2, 0}, {2, 2}, {3, 1}, {3, 255},
            {4, 11}, {4, 19}, {4, 140}, {5, 9}, {5, 15}, {5, 138}};
        for (int[] pair : wrong) {
            expect("byte " + pair[0] + " is " + pair[1], with(pair[0], pair[1]), pair[0]);
        }
        for (int w = 12; w <= 18; w++) {
            expect("w is " + w, with(4, w), ImageReader.NONE);
        }
        for (int e = 10; e <= 14; e++) {
            expect("e is " + e, with(5, e), ImageReader.NONE);
        }
        byte[] none = with(7, 0);
        expect("N is 0", none, 6);
        expect("N is 0, cut behind byte 6", Arrays.copyOf(none, 7), 7);
        byte[] over = with(6, 32);
        expect("N is above 8192", over, 6);
        over[7] = 0;
        expect("N is 8192", over, 6);
        expect("N is 1, S0 is object 1, S1 object 2", with(7, 1), Model.specialPlace(1));
        expect("N is 65535 and cut", Arrays.copyOf(with(6, 255), 7), 7);
        byte[] most = with(6, 31);
        most[7] = (byte) 255;
        expect("N is 8191, too few are there", most, most.length);
        expect("N is 8191, nothing more", Arrays.copyOf(most, 8), 8);
    }

    private static void rule2Cut() {
        Model small = Model.small();
        byte[] good = small.bytes();
        for (int n = 8; n < good.length; n++) {
            expect("cut to " + n, Arrays.copyOf(good, n), cutPlace(small, n));
        }
    }

    /** The first byte of the part in which byte n stands. */
    private static int cutPlace(Model model, int n) {
        if (n < 208) {
            return n / 4 * 4;
        }
        int k = 1;
        while (k < model.things.size() && model.place(k + 1) <= n) {
            k++;
        }
        int at = model.place(k);
        int inside = n - at;
        if (inside < 4) {
            return at;
        }
        if (inside < 7) {
            return inside == 4 ? at + 4 : at + 5;
        }
        return model.thing(k).kind == Model.BYTES ? at + 7 : at + 7 + (inside - 7) / 4 * 4;
    }

    private static void rule2Values() {
        int over = 2 * (Model.SMALL_COUNT + 1);
        for (int bad : new int[] {over, -2, Integer.MIN_VALUE, Integer.MAX_VALUE - 1, 65536}) {
            for (int k : new int[] {0, 7, 13, 15, 49}) {
                Model model = Model.small();
                model.specials[k] = bad;
                expect("S" + k + " is " + bad, model, Model.specialPlace(k));
            }
            Model model = Model.small();
            model.thing(Model.CODE).classValue = bad;
            expect("a class is " + bad, model, model.place(Model.CODE));
            model = Model.small();
            model.thing(Model.PROCESS).parts[3] = bad;
            expect("a field is " + bad, model, model.fieldPlace(Model.PROCESS, 3));
        }
        for (int good : new int[] {0, 1, -1, Integer.MAX_VALUE, Integer.MIN_VALUE + 1, over - 2}) {
            Model model = Model.small();
            model.specials[15] = good;
            model.specials[49] = good;
            model.thing(Model.PROCESS).parts[3] = good;
            expect("values are " + good, model, ImageReader.NONE);
        }
        for (int kind : new int[] {2, 3, 128, 255}) {
            Model model = Model.small();
            model.thing(Model.PROCESS).kind = kind;
            expect("a kind is " + kind, model, model.place(Model.PROCESS) + 4);
        }
        bodiesThatAreNotWhole();
    }

    private static void bodiesThatAreNotWhole() {
        Model model = Model.small();
        int last = model.add(Model.BYTES_CLASS, Model.BYTES, 1, 2, 3);
        byte[] bytes = model.bytes();
        bytes[model.place(last) + 6] = 4;
        expect("one byte less than told", bytes, model.place(last) + 7);
        bytes[model.place(last) + 5] = (byte) 255;
        expect("far less bytes than told", bytes, model.place(last) + 7);
        model = Model.small();
        last = model.add(Model.PLAIN_CLASS, Model.FIELDS, 1, 3);
        bytes = model.bytes();
        bytes[model.place(last) + 5] = (byte) 255;
        expect("far less fields than told", bytes, bytes.length);
        model = Model.small();
        model.thing(3).parts[0] = -2;
        model.thing(3).kind = 9;
        expect("the kind is told before the fields", model, model.place(3) + 4);
        model.thing(3).classValue = -2;
        expect("the class is told before the kind", model, model.place(3));
    }

    private static void rule3Rest() {
        byte[] good = Model.small().bytes();
        expect("one byte follows", Arrays.copyOf(good, good.length + 1), good.length);
        expect("many bytes follow", Arrays.copyOf(good, good.length + 50), good.length);
        byte[] fewer = good.clone();
        fewer[7]--;
        Model small = Model.small();
        expect("an object follows", fewer, small.place(Model.SMALL_COUNT));
    }

    private static int wordsOf(Model model) {
        ImageReader reader = new ImageReader();
        model.w = 18;
        model.read(reader);
        model.w = 12;
        return reader.words();
    }

    private static void rule4Room() {
        Model full = Model.small();
        int left = 4096 - wordsOf(full) - 4;
        full.add(Model.PLAIN_CLASS, Model.FIELDS, new int[left]);
        expect("4096 words", full, ImageReader.NONE);
        Model over = Model.small();
        over.add(Model.PLAIN_CLASS, Model.FIELDS, new int[left + 1]);
        expect("4097 words, w 12", over, 4);
        over.w = 13;
        expect("4097 words, w 13", over, ImageReader.NONE);
        Model bytes = Model.small();
        int last = bytes.add(Model.BYTES_CLASS, Model.BYTES, new int[4 * left]);
        expect("4096 words with bytes", bytes, ImageReader.NONE);
        bytes.thing(last).parts = new int[4 * left + 1];
        expect("4097 words with a part of four bytes", bytes, 4);
        bytes.thing(last).parts = new int[4 * left - 3];
        expect("4096 words with a part of four bytes", bytes, ImageReader.NONE);
        manyObjects();
    }

    private static void manyObjects() {
        Model many = Model.small();
        many.w = 13;
        while (many.things.size() < 1024) {
            many.add(Model.EMPTY_CLASS, Model.FIELDS);
        }
        expect("1024 objects, e 10", many, ImageReader.NONE);
        many.add(Model.EMPTY_CLASS, Model.FIELDS);
        expect("1025 objects, e 10", many, 5);
        many.w = 12;
        expect("1025 objects in too many words", many, 4);
        many.w = 13;
        many.e = 11;
        expect("1025 objects, e 11", many, ImageReader.NONE);
    }

    private static void special(String what, int k, int value, int place) {
        Model model = Model.small();
        model.specials[k] = value;
        expect(what, model, place);
    }

    private static void rule5Specials() {
        for (int k = 0; k < 15; k++) {
            special("S" + k + " is nil", k, 0, Model.specialPlace(k));
            special("S" + k + " is a number", k, 3, Model.specialPlace(k));
        }
        special("S1 is S0", 1, Model.object(1), Model.specialPlace(1));
        special("S0 is S1", 0, Model.object(2), Model.specialPlace(1));
        special("S0 is S2", 0, Model.object(3), ImageReader.NONE);
        special("S1 is S12", 1, Model.object(13), ImageReader.NONE);
        special("S0 is of bytes", 0, Model.object(Model.CODE), ImageReader.NONE);
        special("S3 is S2", 3, Model.object(3), Model.specialPlace(3));
        special("S12 is S2", 12, Model.object(3), Model.specialPlace(12));
        special("S4 is S10", 4, Model.object(11), Model.specialPlace(10));
        special("S12 is no class", 12, Model.object(Model.LISTS), Model.specialPlace(12));
        special("S2 is of bytes", 2, Model.object(Model.CODE), Model.specialPlace(2));
        special("S13 is a class", 13, Model.object(3), Model.specialPlace(13));
        special("S14 is of one field or none", 14, Model.object(1), Model.specialPlace(14));
        special("S14 is of bytes", 14, Model.object(Model.CODE), Model.specialPlace(14));
        special("S14 is a method context", 14, Model.object(28), Model.specialPlace(14));
        special("S14 is a block context", 14, Model.object(29), Model.specialPlace(14));
        for (int size : new int[] {0, 255, 257, 512}) {
            Model model = Model.small();
            model.thing(Model.CHARACTERS).parts = new int[size];
            expect("S13 of " + size + " fields", model, Model.specialPlace(13));
        }
        Model model = Model.small();
        model.specials[13] = Model.object(model.add(Model.BYTES_CLASS, Model.BYTES, new int[256]));
        expect("S13 of 256 bytes", model, Model.specialPlace(13));
        model = Model.small();
        int one = model.add(Model.PLAIN_CLASS, Model.FIELDS, Model.object(Model.LISTS));
        model.specials[14] = Model.object(one);
        expect("S14 of one field", model, Model.specialPlace(14));
    }

    /** Object 10, which is S9 and the class of nothing, with each shape. */
    private static void rule5Classes() {
        for (int shape = -5; shape < 9000; shape++) {
            int f = shape & 1023;
            boolean indexed = (shape & 1024) != 0;
            boolean bytes = (shape & 2048) != 0;
            boolean good = shape >= 0 && shape < 4096 && f <= 255 && (!bytes || f == 0 && indexed);
            shape(shape, good);
        }
        shape(1 << 29, false);
        shape(-1 << 29, false);
        shape(-1073741824, false);
        shape(1073741823, false);
        Model model = Model.small();
        model.thing(10).parts = new int[] {0, 0};
        expect("a class of two fields", model, Model.specialPlace(9));
        model = Model.small();
        model.thing(10).parts = new int[] {0, 0, 0};
        expect("a shape of nil", model, Model.specialPlace(9));
        model = Model.small();
        model.thing(10).parts = new int[] {0, 0, Model.object(1)};
        expect("a shape that is an object", model, Model.specialPlace(9));
        model = Model.small();
        model.thing(10).parts = new int[] {1, Model.object(4), Model.number(7), 5, Model.object(5)};
        expect("a class of five fields", model, ImageReader.NONE);
    }

    private static void shape(int shape, boolean good) {
        Model model = Model.small();
        model.thing(10).parts[2] = Model.number(shape);
        expect("shape " + shape, model, good ? ImageReader.NONE : Model.specialPlace(9));
    }

    private static void added(String what, int classValue, int kind, int size, boolean good) {
        Model model = Model.small();
        int k = model.add(0, kind, new int[size]);
        model.thing(k).classValue = classValue;
        model.add(Model.EMPTY_CLASS, Model.FIELDS, 0);
        expect(what, model, model.place(good ? k + 1 : k));
    }

    private static void rule6Classes() {
        added("class nil", 0, Model.FIELDS, 0, false);
        added("class a number", 1, Model.FIELDS, 0, false);
        added("class no class", Model.object(1), Model.FIELDS, 0, false);
        added("class of bytes", Model.object(Model.CODE), Model.FIELDS, 0, false);
        added("fields of a class of bytes", Model.object(Model.BYTES_CLASS), Model.FIELDS, 1, false);
        added("no fields of a class of bytes", Model.object(Model.BYTES_CLASS), Model.FIELDS, 0, false);
        added("no bytes of a class of bytes", Model.object(Model.BYTES_CLASS), Model.BYTES, 0, true);
        added("bytes of a class of bytes", Model.object(Model.BYTES_CLASS), Model.BYTES, 9, true);
        added("bytes of a class of fields", Model.object(Model.PLAIN_CLASS), Model.BYTES, 1, false);
        added("no bytes of an empty class", Model.object(Model.EMPTY_CLASS), Model.BYTES, 0, false);
        added("two bytes of a class of two", Model.object(Model.PAIR_CLASS), Model.BYTES, 2, false);
        int[][] exact = {{Model.PAIR_CLASS, 2}, {Model.EMPTY_CLASS, 0}, {11, 255}, {13, 3}};
        for (int[] pair : exact) {
            for (int size = Math.max(0, pair[1] - 2); size < pair[1] + 3; size++) {
                added("class of " + pair[1] + ", " + size + " fields", Model.object(pair[0]),
                    Model.FIELDS, size, size == pair[1]);
            }
        }
        int[][] least = {{Model.PLAIN_CLASS, 0}, {Model.CLASS_CLASS, 3}, {12, 255}};
        for (int[] pair : least) {
            for (int size = Math.max(0, pair[1] - 2); size < pair[1] + 3; size++) {
                added("class of " + pair[1] + " or more, " + size + " fields",
                    Model.object(pair[0]), Model.FIELDS, size, size >= pair[1]);
            }
        }
        Model model = Model.small();
        model.thing(1).classValue = Model.object(Model.BYTES_CLASS);
        model.thing(Model.CONTEXT).parts[3] = 0;
        expect("the first object of two", model, 208);
        classesBeyondTheSpecialOnes();
    }

    private static void classesBeyondTheSpecialOnes() {
        Model model = Model.small();
        int classObject = model.add(Model.CLASS_CLASS, Model.FIELDS, 0, 0, Model.number(1));
        int good = model.add(classObject, Model.FIELDS, 0);
        expect("a class that is not special", model, ImageReader.NONE);
        model.thing(classObject).parts[2] = Model.number(2);
        expect("of too few fields", model, model.place(good));
        model.thing(classObject).parts[2] = Model.number(256);
        expect("of an unfit shape", model, model.place(good));
        model.thing(classObject).parts[2] = Model.number(1);
        model.thing(classObject).classValue = Model.object(classObject);
        expect("a class of itself that is too long", model, model.place(classObject));
        model.thing(classObject).parts[2] = Model.number(3);
        expect("a class of itself", model, model.place(good));
        model.thing(good).parts = new int[3];
        expect("a class of itself and one more", model, ImageReader.NONE);
    }

    private static void method(String what, boolean good, int... parts) {
        Model model = Model.small();
        model.thing(Model.METHOD).parts = parts;
        expect(what, model, good ? ImageReader.NONE : model.place(Model.CONTEXT));
    }

    private static void rule6Methods() {
        int code = Model.object(Model.CODE);
        int head = Model.methodHead(Model.ARGUMENTS, Model.TEMPORARIES, Model.DEPTH, 0);
        method("as it is", true, head, code);
        method("with literals", true, head, code, 0, 5, code);
        method("without code", false, head);
        method("without fields", false);
        method("code nil", false, head, 0);
        method("code a number", false, head, 5);
        method("code of fields", false, head, Model.object(1));
        method("head nil", false, 0, code);
        method("head an object", false, code, code);
        method("P is 255", true, Model.methodHead(2, 3, 4, 255), code);
        method("P is 256", false, Model.methodHead(2, 3, 4, 256), code);
        method("the highest bit", false, Model.methodHead(2, 3, 4, 0) | 1 << 30, code);
        method("below 0", false, Model.methodHead(2, 3, 4, 0) | 1 << 31, code);
        method("A is T", true, Model.methodHead(3, 3, 4, 1), code);
        method("A is 0", true, Model.methodHead(0, 3, 4, 1), code);
        method("A is above T", false, Model.methodHead(4, 3, 4, 1), code);
        method("T is one less", false, Model.methodHead(2, 2, 4, 1), code);
        method("D is one more", false, Model.methodHead(2, 3, 5, 1), code);
        Model swapped = Model.small();
        swapped.thing(Model.METHOD).parts[0] = Model.methodHead(2, 4, 3, 1);
        expect("D and T for one another fit only the method", swapped, swapped.place(Model.BLOCK));
        for (int t : new int[] {0, 15, 16, 31}) {
            for (int d : new int[] {0, 31, 32, 63}) {
                int a = Math.min(t, 15);
                expect("T " + t + " D " + d, sized(a, t, d, 77), ImageReader.NONE);
                heights(sized(a, t, d, 77), t, d);
            }
        }
        argumentsAndPrimitives();
    }

    private static void argumentsAndPrimitives() {
        for (int t = 0; t < 32; t++) {
            for (int a = 0; a < 16; a++) {
                Model model = sized(a, t, 1, 1);
                int place = a <= t ? ImageReader.NONE : model.place(Model.CONTEXT);
                expect("A " + a + " T " + t, model, place);
            }
        }
        for (int p : new int[] {0, 1, 128, 255}) {
            expect("the least with P " + p, sized(0, 0, 0, p), ImageReader.NONE);
            expect("the largest with P " + p, sized(15, 31, 63, p), ImageReader.NONE);
        }
        for (int p : new int[] {-1, 256, 511, 512, 16384, 32767}) {
            Model model = sized(0, 0, 0, p);
            expect("the least with P " + p, model, model.place(Model.CONTEXT));
        }
    }

    /** The small image with another method, and contexts for it that are full. */
    private static Model sized(int a, int t, int d, int p) {
        Model model = Model.small();
        int code = Model.object(Model.CODE);
        model.thing(Model.METHOD).parts = new int[] {Model.methodHead(a, t, d, p), code};
        int[] parts = Arrays.copyOf(model.thing(Model.CONTEXT).parts, 5 + t + d);
        Arrays.fill(parts, 5, parts.length, code);
        parts[2] = Model.number(t + d);
        model.thing(Model.CONTEXT).parts = parts;
        int[] block = Arrays.copyOf(model.thing(Model.BLOCK).parts, 6 + d);
        Arrays.fill(block, 6, block.length, code);
        block[2] = Model.number(d);
        model.thing(Model.BLOCK).parts = block;
        return model;
    }

    private static void heights(Model model, int t, int d) {
        String what = "T " + t + " D " + d;
        int[] context = model.thing(Model.CONTEXT).parts;
        int[] block = model.thing(Model.BLOCK).parts;
        context[2] = Model.number(t + d + 1);
        expect(what + ", height one more", model, model.place(Model.CONTEXT));
        context[2] = Model.number(t - 1);
        expect(what + ", height below T", model, model.place(Model.CONTEXT));
        context[2] = Model.number(t);
        Arrays.fill(context, 5 + t, 5 + t + d, 0);
        expect(what + ", height T", model, ImageReader.NONE);
        block[2] = Model.number(d + 1);
        expect(what + ", height of the block one more", model, model.place(Model.BLOCK));
        block[2] = Model.number(0);
        Arrays.fill(block, 6, 6 + d, 0);
        expect(what + ", height of the block 0", model, ImageReader.NONE);
    }

    private static void context(String what, int k, int i, int value, boolean good) {
        Model model = Model.small();
        model.thing(k).parts[i] = value;
        expect(what, model, good ? ImageReader.NONE : model.place(k));
    }

    private static void links(String what, int k) {
        context(what + " sent by nil", k, 0, 0, true);
        context(what + " sent by itself", k, 0, Model.object(k), true);
        context(what + " sent by a method context", k, 0, Model.object(Model.CONTEXT), true);
        context(what + " sent by a block context", k, 0, Model.object(Model.BLOCK), true);
        context(what + " sent by a number", k, 0, 1, false);
        context(what + " sent by no context", k, 0, Model.object(Model.PROCESS), false);
        context(what + " at 0", k, 1, Model.number(0), true);
        context(what + " at the largest", k, 1, Integer.MAX_VALUE, true);
        context(what + " at -1", k, 1, Model.number(-1), false);
        context(what + " at the least", k, 1, Integer.MIN_VALUE + 1, false);
        context(what + " at an object", k, 1, Model.object(1), false);
        context(what + " height nil", k, 2, 0, false);
        context(what + " height an object", k, 2, Model.object(3), false);
        context(what + " height below 0", k, 2, Model.number(-1), false);
        context(what + " height far below 0", k, 2, Integer.MIN_VALUE + 1, false);
        context(what + " height far above", k, 2, Integer.MAX_VALUE, false);
    }

    private static void rule6MethodContexts() {
        int k = Model.CONTEXT;
        links("method context", k);
        context("height below T", k, 2, Model.number(2), false);
        context("height T with one field set above it", k, 2, Model.number(3), false);
        context("height T + D", k, 2, Model.number(7), true);
        context("height above T + D", k, 2, Model.number(8), false);
        context("method nil", k, 3, 0, false);
        context("method a number", k, 3, 1, false);
        context("method no method", k, 3, Model.object(Model.PROCESS), false);
        context("receiver nil", k, 4, 0, true);
        context("receiver a number", k, 4, -1, true);
        context("the last below the height", k, 8, Model.object(5), true);
        context("the last below the height nil", k, 8, 0, true);
        context("the first above the height", k, 9, 1, false);
        context("the last above the height", k, 11, Model.object(1), false);
        Model dead = Model.small();
        dead.thing(k).parts[1] = 0;
        expect("the process is dead, no context is ill", dead, Model.specialPlace(14));
        for (int size : new int[] {5, 11, 13}) {
            Model model = Model.small();
            model.thing(k).parts = Arrays.copyOf(model.thing(k).parts, size);
            expect("method context of " + size, model, model.place(k));
        }
        ofBytesAll(k, 7);
    }

    /** A class of contexts may be one of bytes, but then it has no contexts. */
    private static void ofBytesAll(int k, int special) {
        Model model = Model.small();
        model.thing(special + 1).parts[2] = Model.number(3072);
        model.thing(k).kind = Model.BYTES;
        model.thing(k).parts = new int[12];
        expect("a context of bytes", model, model.place(k));
    }

    private static void rule6BlockContexts() {
        int k = Model.BLOCK;
        links("block context", k);
        context("dead", k, 1, 0, true);
        context("height 0 with one field set above it", k, 2, Model.number(0), false);
        context("height D", k, 2, Model.number(4), true);
        context("height above D", k, 2, Model.number(5), false);
        for (int n = -2; n < 18; n++) {
            context("arguments " + n, k, 3, Model.number(n), n >= 0 && n <= 15);
        }
        context("arguments nil", k, 3, 0, false);
        context("arguments an object", k, 3, Model.object(3), false);
        context("start nil", k, 4, 0, true);
        context("start 0", k, 4, Model.number(0), true);
        context("start largest", k, 4, Integer.MAX_VALUE, true);
        context("start -1", k, 4, Model.number(-1), false);
        context("start an object", k, 4, Model.object(3), false);
        context("home nil", k, 5, 0, false);
        context("home a number", k, 5, 3, false);
        context("home the block itself", k, 5, Model.object(k), false);
        context("home a plain object", k, 5, Model.object(Model.PROCESS), false);
        context("the last below the height", k, 6, Model.object(k), true);
        context("the first above the height", k, 7, 1, false);
        context("the last above the height", k, 9, 1, false);
        for (int size : new int[] {6, 9, 11, 12}) {
            Model model = Model.small();
            model.thing(k).parts = Arrays.copyOf(model.thing(k).parts, size);
            expect("block context of " + size, model, model.place(k));
        }
        ofBytesAll(k, 8);
        homes();
    }

    /** The home stands behind the block, so that a block that fits is passed by. */
    private static void homes() {
        Model model = Model.small();
        int home = model.add(Model.METHOD_CONTEXT_CLASS, Model.FIELDS, 0, 0, 0, Model.object(27), 0);
        model.thing(Model.BLOCK).parts[5] = Model.object(home);
        expect("home of five fields, ill itself", model, model.place(home));
        model.thing(home).parts[3] = Model.object(1);
        expect("home without a method", model, model.place(Model.BLOCK));
        model.thing(home).parts[3] = 1;
        expect("home with a number for a method", model, model.place(Model.BLOCK));
        model.thing(home).parts = new int[] {0, 0, 0, Model.object(27)};
        expect("home of four fields", model, model.place(Model.BLOCK));
        model.thing(home).parts = new int[0];
        expect("home without fields", model, model.place(Model.BLOCK));
        model.thing(home).parts = new int[] {0, 0, 0, Model.object(27), 0};
        model.thing(home).classValue = Model.object(Model.PLAIN_CLASS);
        expect("home of another class", model, model.place(Model.BLOCK));
    }

    private static void scheduled(String what, int k, int i, int value, boolean good) {
        Model model = Model.small();
        model.thing(k).parts[i] = value;
        expect(what, model, good ? ImageReader.NONE : Model.specialPlace(14));
    }

    private static void scheduledBy(String what, int k, int classObject, int... parts) {
        Model model = Model.small();
        int other = model.add(classObject, Model.FIELDS, parts);
        model.thing(Model.SCHEDULER).parts[k] = Model.object(other);
        expect(what, model, Model.specialPlace(14));
    }

    private static void rule7Scheduler() {
        int s = Model.SCHEDULER;
        scheduled("lists nil", s, 0, 0, false);
        scheduled("lists a number", s, 0, 3, false);
        scheduled("lists of bytes", s, 0, Model.object(Model.CODE), false);
        scheduled("lists a context", s, 0, Model.object(Model.CONTEXT), false);
        scheduled("lists of 256, all nil", s, 0, Model.object(Model.CHARACTERS), false);
        int[] seven = Arrays.copyOf(Model.small().thing(Model.LISTS).parts, 7);
        scheduledBy("lists of seven", 0, Model.PLAIN_CLASS, seven);
        scheduled("process nil", s, 1, 0, false);
        scheduled("process a number", s, 1, 3, false);
        scheduled("process of bytes", s, 1, Model.object(Model.CODE), false);
        scheduled("process a context", s, 1, Model.object(Model.BLOCK), false);
        int context = Model.object(Model.CONTEXT);
        scheduledBy("process of three", 1, Model.PLAIN_CLASS, 0, context, Model.number(5));
        for (int i = 0; i < 8; i++) {
            scheduled("list " + i + " nil", Model.LISTS, i, 0, false);
            scheduled("list " + i + " a number", Model.LISTS, i, 1, false);
            scheduled("list " + i + " of no fields", Model.LISTS, i, Model.object(1), false);
            scheduled("list " + i + " of bytes", Model.LISTS, i, Model.object(Model.CODE), false);
            scheduled("list " + i + " a context", Model.LISTS, i, context, false);
            scheduled("list " + i + " a block", Model.LISTS, i, Model.object(Model.BLOCK), false);
            scheduled("list " + i + " the process", Model.LISTS, i, Model.object(Model.PROCESS), true);
        }
        scheduled("context nil", Model.PROCESS, 1, 0, false);
        scheduled("context a number", Model.PROCESS, 1, 1, false);
        scheduled("context none", Model.PROCESS, 1, Model.object(1), false);
        scheduled("context a dead block", Model.PROCESS, 1, Model.object(Model.BLOCK), false);
        for (int n = -1; n < 11; n++) {
            scheduled("priority " + n, Model.PROCESS, 2, Model.number(n), n >= 1 && n <= 8);
        }
        scheduled("priority nil", Model.PROCESS, 2, 0, false);
        scheduled("priority an object", Model.PROCESS, 2, Model.object(2), false);
        Model single = Model.small();
        int one = single.add(Model.PLAIN_CLASS, Model.FIELDS, Model.number(1));
        single.thing(Model.LISTS).parts[7] = Model.object(one);
        expect("list 7 of one field", single, Model.specialPlace(14));
        longerThanNeeded();
        livingBlock();
    }

    private static void longerThanNeeded() {
        Model longer = Model.small();
        longer.thing(Model.LISTS).parts = Arrays.copyOf(longer.thing(Model.LISTS).parts, 9);
        expect("nine lists, the last nil", longer, ImageReader.NONE);
        Model more = Model.small();
        int s = more.add(Model.PLAIN_CLASS, Model.FIELDS, Model.object(Model.LISTS),
            Model.object(Model.PROCESS), 1, 3);
        more.specials[14] = Model.object(s);
        expect("a longer scheduler", more, ImageReader.NONE);
        more.thing(s).parts[0] = 0;
        expect("a longer scheduler without lists", more, Model.specialPlace(14));
    }

    private static void livingBlock() {
        Model model = Model.small();
        model.thing(Model.BLOCK).parts[1] = Model.number(7);
        model.thing(Model.PROCESS).parts[1] = Model.object(Model.BLOCK);
        expect("a living block is scheduled", model, ImageReader.NONE);
        model.thing(Model.CONTEXT).parts[1] = 0;
        expect("a living block of a dead home", model, ImageReader.NONE);
    }

    private static void firstRuleComesFirst() {
        Model model = Model.small();
        model.thing(Model.PROCESS).parts[2] = 0;
        expect("(7) alone", model, Model.specialPlace(14));
        model.thing(Model.BLOCK).parts[3] = 0;
        expect("(6) before (7)", model, model.place(Model.BLOCK));
        model.specials[14] = 0;
        expect("(5) before (6)", model, Model.specialPlace(14));
        model.add(Model.PLAIN_CLASS, Model.FIELDS, new int[4096]);
        expect("(4) before (5)", model, 4);
        byte[] bytes = model.bytes();
        expect("(3) before (4)", Arrays.copyOf(bytes, bytes.length + 1), bytes.length);
        model.thing(Model.BLOCK).parts[2] = -2;
        bytes = model.bytes();
        int place = model.fieldPlace(Model.BLOCK, 2);
        expect("(2) before (3)", Arrays.copyOf(bytes, bytes.length + 1), place);
        bytes[5] = 9;
        expect("(1) before (2)", bytes, 5);
    }
}
