import java.util.Arrays;

/** Promise 5 and the rules (1) to (5) by which an image is refused, each at its place. */
public final class RefusalTest {

    private static final Due DUE = new Due("RefusalTest");
    private static final int NONE = ImageReader.NONE;

    public static void main(String[] args) {
        promise5UsesTheBytesUp();
        promise5TheImageIsAtHandThen();
        promise5TheImageAtHandStays();
        promise5AsLargeAsCallsBring();
        rule1EachByte();
        rule1EndsBefore();
        rule1HowManyObjects();
        rule2ThereWhole();
        rule2Kinds();
        rule2Sizes();
        rule2BodiesOfBytes();
        rule2FirstOfThese();
        rule3NothingFollows();
        rule4Words();
        rule4PartsOfFour();
        rule4Objects();
        rule4WordsBeforeObjects();
        rule5TwoObjects();
        rule5ElevenClasses();
        rule5EachRowForItself();
        rule5Characters();
        rule5Scheduler();
        rule5FirstSpecialValue();
        firstRuleComesFirst();
        DUE.end();
    }

    /** "The bytes that came in are used up, well formed or not" */
    private static void promise5UsesTheBytesUp() {
        Counted reader = Counted.with(Model.small());
        DUE.is("read: came(0)", reader.came(0), NONE);
        DUE.is("read: end(0)", reader.end(0), 0);
        DUE.is("nothing came: read()", reader.read(), 0);
        reader.feed(0x4d4d0100, 0, 0, 0, 0);
        DUE.is("refused: read()", reader.read(), 4);
        DUE.is("refused: came(0)", reader.came(0), NONE);
        DUE.isTrue("refused: end(1) throws", reader.endThrows(1));
        DUE.is("refused: end(0)", reader.end(0), 0);
        reader.feed(9, 9, 9, 9, 9);
        DUE.is("refused: the next bytes are the first", reader.came(3), 9);
        DUE.is("refused: end(20)", reader.end(20), 20);
    }

    /** "if they are a well-formed image it is the image at hand then. Answers NONE" */
    private static void promise5TheImageIsAtHandThen() {
        Counted reader = new Counted();
        Model longer = Model.small();
        longer.add(Model.PLAIN_CLASS, Model.FIELDS, 1, 3, 5);
        Model[] models = {Model.small(), longer, Model.small(), longer};
        for (Model model : models) {
            DUE.is("read()", reader.read(model), NONE);
            DUE.is("objects()", reader.objects(), model.things.size());
            DUE.is("words()", reader.words(), model.words());
            DUE.is("size(30)", reader.size(30), model.things.size() < 30 ? NONE : 3);
            DUE.is("field(30, 2)", reader.field(30, 2), model.things.size() < 30 ? 0 : 5);
        }
    }

    /** An image of as many bytes as 512 calls bring, with one left to look at it. */
    private static void promise5AsLargeAsCallsBring() {
        int length = 20 * (Counted.MOST_CALLS - 3);
        Model model = Model.small();
        int size = length - model.bytes().length - 7;
        int last = model.add(Model.BYTES_CLASS, Model.BYTES, new int[size]);
        model.thing(last).parts[size - 1] = 200;
        Counted reader = new Counted();
        DUE.is("the largest: read()", reader.read(model), NONE);
        DUE.is("the largest: its last byte", reader.byteAt(last, size - 1), 200);
        DUE.is("calls left", reader.left(), 0);
        byte[] bytes = model.bytes();
        bytes[model.place(last) + 6]++;
        Counted other = new Counted().feed(bytes);
        DUE.is("one byte too few: read()", other.read(), model.place(last) + 7);
        bytes[model.place(last) + 6] -= 2;
        other = new Counted().feed(bytes);
        DUE.is("one byte too many: read()", other.read(), length - 1);
    }

    /** "otherwise the place at which it is refused (and the image at hand stays)" */
    private static void promise5TheImageAtHandStays() {
        String before = new Asker(() -> Counted.with(Model.small())).state();
        Model[] bad = new Model[5];
        for (int i = 0; i < bad.length; i++) {
            bad[i] = Model.small();
            bad[i].add(Model.PLAIN_CLASS, Model.FIELDS, 1, 3, 5);
            bad[i].specials[40] = Model.number(40);
        }
        bad[0].specials[49] = -2;
        bad[1].thing(30).parts[2] = -2;
        bad[2].e = 9;
        bad[3].thing(30).classValue = 0;
        bad[4].thing(Model.PROCESS).parts[2] = 0;
        int[] places = {204, bad[1].fieldPlace(30, 2), 5, bad[3].place(30), 64};
        for (int i = 0; i < bad.length; i++) {
            int which = i;
            Asker after = new Asker(() -> {
                Counted reader = Counted.with(Model.small());
                DUE.is("refused " + which + ": read()", reader.read(bad[which]), places[which]);
                return reader;
            });
            DUE.isText("the state behind refusal " + i, after.state(), before);
        }
    }

    private static byte[] with(int i, int b) {
        byte[] bytes = Model.small().bytes();
        bytes[i] = (byte) b;
        return bytes;
    }

    /** "0 .. 3 are 77, 77, 1, 0. 4: w, 12 .. 18. 5: e, 10 .. 14.": at the first that is not */
    private static void rule1EachByte() {
        int[] least = {77, 77, 1, 0, 12, 10};
        int[] most = {77, 77, 1, 0, 18, 14};
        for (int i = 0; i < 6; i++) {
            for (int b = 0; b < 256; b++) {
                boolean good = b >= least[i] && b <= most[i];
                DUE.reads("byte " + i + " is " + b, with(i, b), good ? NONE : i);
            }
        }
        byte[] bytes = new byte[20];
        for (int i = 0; i < 6; i++) {
            DUE.reads("bytes 0 .. " + (i - 1) + " alone are such", bytes, i == 3 ? 4 : i);
            bytes[i] = (byte) least[i];
        }
        DUE.reads("bytes 0 .. 5 alone are such", bytes, 6);
    }

    /** "or where the image ends before" */
    private static void rule1EndsBefore() {
        byte[] good = Model.small().bytes();
        for (int n = 0; n < 8; n++) {
            DUE.reads("the first " + n, Arrays.copyOf(good, n), n);
        }
        DUE.reads("the first 8", Arrays.copyOf(good, 8), 8);
        for (int n = 1; n < 6; n++) {
            byte[] wrong = Arrays.copyOf(good, n);
            wrong[n - 1] = 99;
            DUE.reads("the first " + n + ", the last is wrong", wrong, n - 1);
        }
    }

    /** "N, how many objects (1 .. 8191)", "N is told at byte 6, when byte 7 is there" */
    private static void rule1HowManyObjects() {
        byte[] small = Model.small().bytes();
        int[][] placesOfN = {{0, 6}, {1, Model.specialPlace(1)}, {2, Model.specialPlace(2)},
            {28, Model.small().place(Model.SMALL_COUNT)}, {29, NONE}, {30, small.length},
            {255, small.length}, {256, small.length}, {8190, small.length}, {8191, small.length},
            {8192, 6}, {8193, 6}, {8221, 6}, {16384, 6}, {32768, 6}, {65280, 6}, {65535, 6}};
        for (int[] pair : placesOfN) {
            byte[] bytes = with(6, pair[0] >> 8);
            bytes[7] = (byte) pair[0];
            DUE.reads("N is " + pair[0], bytes, pair[1]);
            int cut = pair[1] == 6 ? 6 : 8;
            DUE.reads("N is " + pair[0] + " and ends", Arrays.copyOf(bytes, 8), cut);
            DUE.reads("N is " + pair[0] + " and half there", Arrays.copyOf(bytes, 7), 7);
        }
    }

    /** "each special value, and then of each object its class .. are there whole": cut anywhere */
    private static void rule2ThereWhole() {
        Model small = Model.small();
        byte[] good = small.bytes();
        for (int n = 8; n < good.length; n++) {
            DUE.reads("cut to " + n, Arrays.copyOf(good, n), cutPlace(small, n));
        }
        DUE.reads("not cut", good, NONE);
    }

    /** The first byte of the part in which byte n stands. */
    private static int cutPlace(Model model, int n) {
        if (n < 208) {
            return n / 4 * 4;
        }
        int k = 1;
        while (k < model.things.size() && model.place(k + 1) <= n) {
            k++;
        }
        int at = model.place(k);
        int inside = n - at;
        if (inside < 4) {
            return at;
        }
        if (inside < 7) {
            return inside == 4 ? at + 4 : at + 5;
        }
        return model.thing(k).kind == Model.BYTES ? at + 7 : at + 7 + (inside - 7) / 4 * 4;
    }

    /** "0 for fields or 1 for bytes (1 byte)" */
    private static void rule2Kinds() {
        for (int k : new int[] {1, Model.PROCESS, Model.CODE, Model.SMALL_COUNT}) {
            for (int kind : new int[] {2, 3, 127, 128, 129, 254, 255}) {
                byte[] bytes = Model.small().bytes();
                int place = Model.small().place(k) + 4;
                bytes[place] = (byte) kind;
                DUE.reads("kind " + kind + " of " + k, bytes, place);
            }
        }
    }

    /** "the size (2 bytes)": as many parts are there as it tells, or not. */
    private static void rule2Sizes() {
        for (int size : new int[] {0, 1, 255, 256, 257, 511, 512, 700}) {
            for (int kind : new int[] {Model.FIELDS, Model.BYTES}) {
                Model model = Model.small();
                int ofKind = kind == Model.BYTES ? Model.BYTES_CLASS : Model.PLAIN_CLASS;
                int last = model.add(ofKind, kind, new int[size]);
                DUE.isWell("size " + size + " of kind " + kind, model);
                byte[] bytes = model.bytes();
                int place = kind == Model.BYTES ? model.place(last) + 7 : bytes.length;
                for (int told : new int[] {size + 1, size + 256, 65535}) {
                    bytes[model.place(last) + 5] = (byte) (told >> 8);
                    bytes[model.place(last) + 6] = (byte) told;
                    DUE.reads("size " + told + ", there are " + size, bytes, place);
                }
            }
        }
    }

    /** "a body of bytes that is not there whole, at its first byte" */
    private static void rule2BodiesOfBytes() {
        Model model = Model.small();
        int last = model.add(Model.BYTES_CLASS, Model.BYTES, new int[300]);
        byte[] bytes = model.bytes();
        int body = model.place(last) + 7;
        for (int there : new int[] {0, 1, 2, 255, 256, 298, 299}) {
            DUE.reads(there + " of 300 bytes", Arrays.copyOf(bytes, body + there), body);
        }
        DUE.reads("300 of 300 bytes", bytes, NONE);
        Model empty = Model.small();
        empty.add(Model.BYTES_CLASS, Model.BYTES);
        DUE.isWell("0 of 0 bytes", empty);
    }

    /** "at the first byte of the first of these that is not" */
    private static void rule2FirstOfThese() {
        Model model = Model.small();
        model.thing(Model.METHOD).parts[1] = -2;
        DUE.reads("field 1", model, model.fieldPlace(Model.METHOD, 1));
        model.thing(Model.METHOD).parts[0] = -2;
        DUE.reads("field 0 before field 1", model, model.fieldPlace(Model.METHOD, 0));
        model.thing(Model.METHOD).kind = 9;
        DUE.reads("the kind before the fields", model, model.place(Model.METHOD) + 4);
        model.thing(Model.METHOD).classValue = -2;
        DUE.reads("the class before the kind", model, model.place(Model.METHOD));
        model.thing(Model.CODE).classValue = -2;
        DUE.reads("an earlier object before a later one", model, model.place(Model.CODE));
        model.specials[49] = -2;
        DUE.reads("special values before objects", model, Model.specialPlace(49));
        model.specials[48] = -2;
        DUE.reads("S48 before S49", model, Model.specialPlace(48));
        model.specials[0] = -2;
        DUE.reads("S0 before S48", model, Model.specialPlace(0));
    }

    /** "nothing follows: at the first byte that does" */
    private static void rule3NothingFollows() {
        byte[] good = Model.small().bytes();
        for (int more : new int[] {1, 2, 7, 20, 256}) {
            DUE.reads(more + " bytes follow", Arrays.copyOf(good, good.length + more), good.length);
        }
        byte[] fewer = good.clone();
        fewer[7]--;
        DUE.reads("an object follows", fewer, Model.small().place(Model.SMALL_COUNT));
        byte[] twice = Arrays.copyOf(good, 2 * good.length);
        System.arraycopy(good, 0, twice, good.length, good.length);
        DUE.reads("an image follows", twice, good.length);
    }

    /** "all objects take no more than 2^w words (4 for each, and one for each field": at byte 4 */
    private static void rule4Words() {
        for (int words : new int[] {4095, 4096, 4097, 4098}) {
            Model byFields = Model.small().fillWords(4000);
            byFields.add(Model.PLAIN_CLASS, Model.FIELDS, new int[words - byFields.words() - 4]);
            DUE.is("words by fields", byFields.words(), words);
            DUE.isWellIf(words <= 4096, words + " words by fields, w 12", byFields, 4);
            byFields.w = 13;
            DUE.isWell(words + " words by fields, w 13", byFields);
            Model byObjects = Model.small();
            int rest = (words - byObjects.words()) % 4;
            byObjects.add(Model.PLAIN_CLASS, Model.FIELDS, new int[rest]);
            byObjects.fillWords(words);
            DUE.is("words by objects", byObjects.words(), words);
            DUE.isWellIf(words <= 4096, words + " words by objects, w 12", byObjects, 4);
        }
    }

    /** "or for each four bytes or part of four": a part counts as a whole. */
    private static void rule4PartsOfFour() {
        int left = 4096 - Model.small().fillWords(4000).words() - 4;
        for (int bytes = 4 * left - 5; bytes < 4 * left + 6; bytes++) {
            Model model = Model.small().fillWords(4000);
            model.add(Model.BYTES_CLASS, Model.BYTES, new int[bytes]);
            DUE.isWellIf(bytes <= 4 * left, bytes + " bytes in " + left + " words", model, 4);
        }
        for (int bytes = 0; bytes < 10; bytes++) {
            Model model = Model.small().fillWords(4000);
            model.add(Model.BYTES_CLASS, Model.BYTES, new int[bytes]);
            int rest = 4096 - model.words() - 4;
            int last = model.add(Model.PLAIN_CLASS, Model.FIELDS, new int[rest]);
            DUE.isWell(bytes + " bytes and the rest of fields", model);
            model.thing(last).parts = new int[rest + 1];
            DUE.reads(bytes + " bytes and a field too many", model, 4);
        }
    }

    /** "and are no more than 2^e: .. else at byte 5" */
    private static void rule4Objects() {
        for (int objects : new int[] {1023, 1024, 1025, 1026}) {
            Model model = Model.small().fillObjects(objects);
            model.w = 13;
            DUE.isWellIf(objects <= 1024, objects + " objects, e 10", model, 5);
            model.e = 11;
            DUE.isWell(objects + " objects, e 11", model);
        }
    }

    /** "at byte 4 for words, else at byte 5" */
    private static void rule4WordsBeforeObjects() {
        Model model = Model.small().fillObjects(1025);
        DUE.reads("too many words and too many objects", model, 4);
        model.w = 13;
        DUE.reads("too many objects alone", model, 5);
        model.w = 12;
        model.e = 11;
        DUE.reads("too many words alone", model, 4);
    }

    private static void special(String what, int k, int value, boolean good) {
        Model model = Model.small();
        model.specials[k] = value;
        DUE.isWellIf(good, what, model, Model.specialPlace(k));
    }

    private static void areNoObjects(int k) {
        special("S" + k + " is nil", k, 0, false);
        special("S" + k + " is a number", k, Model.number(1), false);
        special("S" + k + " is -1", k, -1, false);
        special("S" + k + " is a number of its bits", k, Model.object(k + 1) + 1, false);
    }

    /** "S0 and S1 are two objects" */
    private static void rule5TwoObjects() {
        areNoObjects(0);
        areNoObjects(1);
        special("S1 is S0", 1, Model.object(1), false);
        Model model = Model.small();
        model.specials[0] = Model.object(2);
        DUE.reads("S0 is S1, told at the second", model, Model.specialPlace(1));
        for (int k : new int[] {3, Model.CODE, Model.CONTEXT, Model.SMALL_COUNT}) {
            special("S0 is object " + k, 0, Model.object(k), true);
            special("S1 is object " + k, 1, Model.object(k), true);
        }
    }

    /** "S2 .. S12 are eleven classes", "of two that are one, the second" */
    private static void rule5ElevenClasses() {
        for (int k = 2; k <= 12; k++) {
            areNoObjects(k);
            special("S" + k + " is no class", k, Model.object(Model.LISTS), false);
            special("S" + k + " is of no fields", k, Model.object(1), false);
            special("S" + k + " is of bytes", k, Model.object(Model.CODE), false);
            for (int before = 2; before < k; before++) {
                special("S" + k + " is S" + before, k, Model.object(before + 1), false);
                Model model = Model.small();
                model.specials[before] = Model.object(k + 1);
                DUE.reads("S" + before + " is S" + k, model, Model.specialPlace(k));
            }
        }
        Model more = Model.small();
        int another = more.add(Model.CLASS_CLASS, Model.FIELDS, 0, 0, Model.number(9));
        more.specials[12] = Model.object(another);
        DUE.isWell("S12 is another class", more);
        more.specials[13] = Model.object(another);
        DUE.reads("S13 is that class", more, Model.specialPlace(13));
    }

    /** "(each row for itself: S0 may be one of the latter)" */
    private static void rule5EachRowForItself() {
        for (int k = 2; k <= 14; k++) {
            special("S0 is S" + k, 0, Model.object(k + 1), true);
            special("S1 is S" + k, 1, Model.object(k + 1), true);
        }
        Model wide = Model.small();
        wide.thing(10).parts = Arrays.copyOf(wide.thing(10).parts, 256);
        wide.specials[13] = Model.object(10);
        DUE.isWell("S13 is S9", wide);
        wide.thing(10).parts[0] = Model.object(Model.LISTS);
        wide.thing(10).parts[1] = Model.object(Model.PROCESS);
        wide.specials[14] = Model.object(10);
        DUE.isWell("S14 is S13 and S9", wide);
        wide.specials[15] = Model.object(10);
        wide.specials[49] = Model.object(10);
        DUE.isWell("S15 and S49 are S14", wide);
    }

    /** "S13 is an object of 256 fields" */
    private static void rule5Characters() {
        areNoObjects(13);
        for (int size : new int[] {0, 1, 254, 255, 256, 257, 511, 512}) {
            Model model = Model.small();
            model.thing(Model.CHARACTERS).parts = new int[size];
            DUE.isWellIf(size == 256, "S13 of " + size, model, Model.specialPlace(13));
        }
        Model model = Model.small();
        model.specials[13] = Model.object(model.add(Model.BYTES_CLASS, Model.BYTES, new int[256]));
        DUE.reads("S13 of 256 bytes", model, Model.specialPlace(13));
    }

    /** "S14 one of two fields or more and no context" */
    private static void rule5Scheduler() {
        areNoObjects(14);
        for (int size = 0; size < 5; size++) {
            Model model = Model.small();
            int[] parts = {Model.object(Model.LISTS), Model.object(Model.PROCESS), 0, 0, 0};
            int k = model.add(Model.PLAIN_CLASS, Model.FIELDS, Arrays.copyOf(parts, size));
            model.specials[14] = Model.object(k);
            DUE.isWellIf(size >= 2, "S14 of " + size, model, Model.specialPlace(14));
        }
        special("S14 is of bytes", 14, Model.object(Model.CODE), false);
        special("S14 is a method context", 14, Model.object(Model.CONTEXT), false);
        special("S14 is a block context", 14, Model.object(Model.BLOCK), false);
        Model ill = Model.small();
        ill.thing(1).classValue = 0;
        int one = ill.add(Model.PLAIN_CLASS, Model.FIELDS, Model.object(Model.LISTS));
        for (int k : new int[] {1, one, Model.CODE, Model.CONTEXT, Model.BLOCK}) {
            ill.specials[14] = Model.object(k);
            DUE.reads("S14 object " + k + ", told before (6)", ill, Model.specialPlace(14));
        }
        ill.specials[14] = Model.object(Model.SCHEDULER);
        DUE.reads("S14 as it should be, (6) is told", ill, 208);
    }

    /** "at the first byte of the first special value that is not such" */
    private static void rule5FirstSpecialValue() {
        Model model = Model.small();
        for (int k = 14; k >= 0; k--) {
            model.specials[k] = 0;
            DUE.reads("S" + k + " .. S14 are nil", model, Model.specialPlace(k));
        }
        int noClass = Model.object(Model.LISTS);
        both("S1 is S0, S2 no class", 1, Model.object(1), 2, noClass);
        both("S3 is S2, S5 no class", 3, Model.object(3), 5, noClass);
        both("S3 no class, S5 is S2", 3, noClass, 5, Model.object(3));
        both("S12 is S2, S13 no object of 256", 12, Model.object(3), 13, noClass);
        both("S12 no class, S14 a context", 12, noClass, 14, Model.object(Model.CONTEXT));
        both("S13 no object of 256, S14 a context", 13, noClass, 14, Model.object(Model.BLOCK));
    }

    private static void both(String what, int first, int value, int second, int another) {
        Model model = Model.small();
        model.specials[second] = another;
        DUE.reads(what + ", the second alone", model, Model.specialPlace(second));
        model.specials[first] = value;
        DUE.reads(what, model, Model.specialPlace(first));
    }

    /** "the first that is told here, going along" */
    private static void firstRuleComesFirst() {
        Model model = Model.small();
        model.thing(Model.PROCESS).parts[2] = 0;
        DUE.reads("(7) alone", model, Model.specialPlace(14));
        model.thing(Model.BLOCK).parts[3] = 0;
        DUE.reads("(6) before (7)", model, model.place(Model.BLOCK));
        model.specials[14] = 0;
        DUE.reads("(5) before (6)", model, Model.specialPlace(14));
        model.fillWords(4100);
        DUE.reads("(4) before (5)", model, 4);
        byte[] bytes = model.bytes();
        DUE.reads("(3) before (4)", Arrays.copyOf(bytes, bytes.length + 1), bytes.length);
        model.thing(Model.BLOCK).parts[2] = -2;
        bytes = model.bytes();
        int place = model.fieldPlace(Model.BLOCK, 2);
        DUE.reads("(2) before (3)", Arrays.copyOf(bytes, bytes.length + 1), place);
        bytes[5] = 9;
        DUE.reads("(1) before (2)", bytes, 5);
    }
}
