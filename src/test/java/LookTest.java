/** Promises 6 to 13: what the image at hand answers. */
public final class LookTest {

    private static final Due DUE = new Due("LookTest");
    private static final int NONE = ImageReader.NONE;
    private static final int LEAST = Integer.MIN_VALUE;
    private static final int MOST = Integer.MAX_VALUE;

    /** Also such as would be there if their doubles or their low bits alone were looked at. */
    private static final int[] NO_OBJECTS = {LEAST, LEAST + 1, -65535, -255, -29, -2, -1, 0,
        Model.SMALL_COUNT + 1, Model.SMALL_COUNT + 2, 63, 64, 257, 8191, 8192, 65537, 1 << 30,
        (1 << 30) + 1, MOST - 1, MOST};

    public static void main(String[] args) {
        promise6Objects();
        promise7Words();
        promise8Special();
        promise8NoneSuch();
        promise9Kind();
        promise9NoneSuch();
        promise10ClassOf();
        promise10NoneSuch();
        promise11Size();
        promise11NoneSuch();
        promise12Field();
        promise12NoneSuch();
        promise13ByteAt();
        promise13NoneSuch();
        aLaterImageTakesItsPlace();
        looksChangeNothing();
        DUE.end();
    }

    private static Asker small() {
        return new Asker(() -> Counted.with(Model.small()));
    }

    /** The small image with objects of 0, 1, 255, 256 and 700 fields and bytes behind it. */
    private static Model withSizes() {
        Model model = Model.small();
        for (int size : new int[] {0, 1, 255, 256, 700}) {
            int[] fields = new int[size];
            int[] bytes = new int[size];
            for (int i = 0; i < size; i++) {
                fields[i] = i % 2 == 0 ? Model.number(i - 300) : Model.object(i % 30);
                bytes[i] = i + 3 & 255;
            }
            model.add(Model.PLAIN_CLASS, Model.FIELDS, fields);
            model.add(Model.BYTES_CLASS, Model.BYTES, bytes);
        }
        return model;
    }

    /** "How many objects the image at hand has; 0 when there is none." */
    private static void promise6Objects() {
        Counted reader = new Counted();
        DUE.is("none: objects()", reader.objects(), 0);
        reader.feed(1, 2, 3, 4, 5);
        reader.read();
        DUE.is("none but a refused one: objects()", reader.objects(), 0);
        for (int more : new int[] {0, 1, 2, 98, 99, 226, 227, 228}) {
            Model model = Model.small().fillObjects(Model.SMALL_COUNT + more);
            DUE.is("objects()", Counted.with(model).objects(), Model.SMALL_COUNT + more);
        }
    }

    /** "How many words they take; 0 when there is no image." */
    private static void promise7Words() {
        Counted reader = new Counted();
        DUE.is("none: words()", reader.words(), 0);
        Model ill = Model.small();
        ill.thing(Model.PROCESS).parts[2] = 0;
        DUE.is("refused: read()", reader.read(ill), Model.specialPlace(14));
        DUE.is("none but a refused one: words()", reader.words(), 0);
        int words = Model.small().words();
        DUE.is("words()", Counted.with(Model.small()).words(), words);
        for (int size = 0; size < 14; size++) {
            Model bytes = Model.small();
            bytes.add(Model.BYTES_CLASS, Model.BYTES, new int[size]);
            int forThese = new int[] {0, 1, 1, 1, 1, 2, 2, 2, 2, 3, 3, 3, 3, 4}[size];
            DUE.is("words() with " + size + " bytes", Counted.with(bytes).words(),
                words + 4 + forThese);
            Model fields = Model.small();
            fields.add(Model.PLAIN_CLASS, Model.FIELDS, new int[size]);
            DUE.is("words() with " + size + " fields", Counted.with(fields).words(),
                words + 4 + size);
        }
    }

    /** "Special value k" */
    private static void promise8Special() {
        Model model = Model.small();
        for (int k = 15; k < 50; k++) {
            model.specials[k] = k % 3 == 0 ? 0 : k % 3 == 1 ? Model.number(k) : Model.object(k / 2);
        }
        Counted reader = Counted.with(model);
        for (int k = 0; k < 50; k++) {
            DUE.is("special(" + k + ")", reader.special(k), model.specials[k]);
        }
    }

    /** "0 when there is none such." */
    private static void promise8NoneSuch() {
        Model model = Model.small();
        model.specials[49] = Model.number(49);
        Counted reader = Counted.with(model);
        for (int k : new int[] {LEAST, LEAST + 1, -50, -1, 50, 51, 64, 256, 65536, 1 << 30, MOST}) {
            DUE.is("special(" + k + ")", reader.special(k), 0);
        }
        DUE.is("special(0)", reader.special(0), 2);
        DUE.is("special(49)", reader.special(49), Model.number(49));
    }

    /** "0 when object k is of fields, 1 .. of bytes, 2 .. a method context, 3 a block context" */
    private static void promise9Kind() {
        Counted reader = Counted.with(Model.small());
        for (int k = 1; k <= Model.SMALL_COUNT; k++) {
            int want = k == Model.CODE ? 1 : k == Model.CONTEXT ? 2 : k == Model.BLOCK ? 3 : 0;
            DUE.is("kind(" + k + ")", reader.kind(k), want);
        }
        Model empty = withSizes();
        Asker asker = new Asker(() -> Counted.with(empty));
        for (int k = Model.SMALL_COUNT + 1; k <= empty.things.size(); k++) {
            int object = k;
            DUE.is("kind(" + k + ")", asker.ask(r -> r.kind(object)), empty.thing(k).kind);
        }
    }

    /** "NONE when there is none such." */
    private static void promise9NoneSuch() {
        Asker asker = small();
        for (int k : NO_OBJECTS) {
            DUE.is("kind(" + k + ")", asker.ask(reader -> reader.kind(k)), NONE);
        }
        DUE.is("kind(1)", asker.ask(reader -> reader.kind(1)), 0);
        DUE.is("kind of the last", asker.ask(reader -> reader.kind(Model.SMALL_COUNT)), 3);
    }

    /** "The class of object k" */
    private static void promise10ClassOf() {
        Model model = withSizes();
        Asker asker = new Asker(() -> Counted.with(model));
        for (int k = 1; k <= model.things.size(); k++) {
            int object = k;
            DUE.is("classOf(" + k + ")", asker.ask(reader -> reader.classOf(object)),
                model.thing(k).classValue);
        }
    }

    /** "0 when there is none such." */
    private static void promise10NoneSuch() {
        Asker asker = small();
        for (int k : NO_OBJECTS) {
            DUE.is("classOf(" + k + ")", asker.ask(reader -> reader.classOf(k)), 0);
        }
    }

    /** "How many fields or bytes object k has" */
    private static void promise11Size() {
        Model model = withSizes();
        Asker asker = new Asker(() -> Counted.with(model));
        for (int k = 1; k <= model.things.size(); k++) {
            int object = k;
            DUE.is("size(" + k + ")", asker.ask(reader -> reader.size(object)),
                model.thing(k).parts.length);
        }
    }

    /** "NONE when there is none such." */
    private static void promise11NoneSuch() {
        Asker asker = small();
        for (int k : NO_OBJECTS) {
            DUE.is("size(" + k + ")", asker.ask(reader -> reader.size(k)), NONE);
        }
        DUE.is("size of one without fields", asker.ask(reader -> reader.size(1)), 0);
    }

    private static void parts(boolean asFields) {
        Model model = withSizes();
        Asker asker = new Asker(() -> Counted.with(model));
        for (int k = 1; k <= model.things.size(); k++) {
            Model.Thing thing = model.thing(k);
            boolean such = asFields == (thing.kind == Model.FIELDS);
            for (int i = 0; i < thing.parts.length; i++) {
                int want = such ? thing.parts[i] : asFields ? 0 : NONE;
                part(asker, asFields, k, i, want);
            }
        }
    }

    private static void part(Asker asker, boolean asFields, int k, int i, int want) {
        if (asFields) {
            DUE.is("field(" + k + ", " + i + ")", asker.ask(r -> r.field(k, i)), want);
        } else {
            DUE.is("byteAt(" + k + ", " + i + ")", asker.ask(r -> r.byteAt(k, i)), want);
        }
    }

    private static void noParts(boolean asFields) {
        Model model = withSizes();
        Asker asker = new Asker(() -> Counted.with(model));
        int want = asFields ? 0 : NONE;
        for (int k = 1; k <= model.things.size(); k++) {
            int size = model.thing(k).parts.length;
            for (int i : new int[] {LEAST, -size - 1, -1, size, size + 1, size + 256, 65536,
                1 << 30, MOST}) {
                part(asker, asFields, k, i, want);
            }
        }
        Asker small = small();
        for (int k : NO_OBJECTS) {
            for (int i : new int[] {LEAST, -1, 0, 1, MOST}) {
                part(small, asFields, k, i, want);
            }
        }
    }

    /** "Field i of object k"; an object of bytes has none. */
    private static void promise12Field() {
        parts(true);
    }

    /** "0 when there is none such." */
    private static void promise12NoneSuch() {
        noParts(true);
    }

    /** "Byte i of object k"; an object of fields has none. */
    private static void promise13ByteAt() {
        parts(false);
    }

    /** "NONE when there is none such." */
    private static void promise13NoneSuch() {
        noParts(false);
    }

    private static void aLaterImageTakesItsPlace() {
        Model longer = withSizes();
        Model later = Model.small();
        later.specials[20] = Model.number(9);
        String fresh = new Asker(() -> Counted.with(later)).state();
        Asker both = new Asker(() -> {
            Counted reader = Counted.with(longer);
            DUE.is("later: read()", reader.read(later), NONE);
            return reader;
        });
        DUE.isText("the state of a shorter image behind a longer one", both.state(), fresh);
        String ofLonger = new Asker(() -> Counted.with(longer)).state();
        Asker back = new Asker(() -> {
            Counted reader = Counted.with(later);
            DUE.is("longer: read()", reader.read(longer), NONE);
            return reader;
        });
        DUE.isText("the state of a longer image behind a shorter one", back.state(), ofLonger);
    }

    private static void looksChangeNothing() {
        String before = small().state();
        Asker after = new Asker(() -> {
            Counted reader = Counted.with(Model.small());
            for (int k : NO_OBJECTS) {
                reader.special(k);
                reader.kind(k);
                reader.classOf(k);
                reader.size(k);
                reader.field(k, 0);
                reader.byteAt(k, 0);
                reader.field(1, k);
                reader.byteAt(Model.CODE, k);
            }
            reader.reachable();
            reader.same();
            return reader;
        });
        DUE.isText("the state behind looks", after.state(), before);
    }
}
