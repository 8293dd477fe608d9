/** Promises 6 to 13: what the image at hand answers. */
public final class LookTest {

    private static final Due DUE = new Due("LookTest");
    private static final int NONE = ImageReader.NONE;
    private static final int[] NO_OBJECTS = {0, -1, Model.SMALL_COUNT + 1, 64, 8192, 65536,
        Integer.MIN_VALUE, Integer.MAX_VALUE};

    public static void main(String[] args) {
        Model model = Model.small();
        ImageReader reader = new ImageReader();
        DUE.is("read()", model.read(reader), NONE);
        countsAreRight(model, reader);
        specialsAreRight(model, reader);
        objectsAreRight(model, reader);
        kindsAreRight(reader);
        whatIsNotThere(reader);
        aLaterImageTakesItsPlace(reader);
        DUE.end();
    }

    private static int wordsOf(Model model) {
        int words = 0;
        for (Model.Thing thing : model.things) {
            int size = thing.parts.length;
            words += 4 + (thing.kind == Model.BYTES ? (int) Math.ceil(size / 4.0) : size);
        }
        return words;
    }

    private static void countsAreRight(Model model, ImageReader reader) {
        DUE.is("objects()", reader.objects(), Model.SMALL_COUNT);
        DUE.is("words()", reader.words(), wordsOf(model));
        for (int size = 0; size < 10; size++) {
            Model more = Model.small();
            more.add(Model.BYTES_CLASS, Model.BYTES, new int[size]);
            ImageReader other = new ImageReader();
            more.read(other);
            DUE.is("words() with " + size + " bytes", other.words(), wordsOf(more));
        }
    }

    private static void specialsAreRight(Model model, ImageReader reader) {
        for (int k = 0; k < 50; k++) {
            DUE.is("special(" + k + ")", reader.special(k), model.specials[k]);
        }
        for (int k : new int[] {-1, 50, 51, Integer.MIN_VALUE, Integer.MAX_VALUE}) {
            DUE.is("special(" + k + ")", reader.special(k), 0);
        }
    }

    private static void objectsAreRight(Model model, ImageReader reader) {
        for (int k = 1; k <= Model.SMALL_COUNT; k++) {
            Model.Thing thing = model.thing(k);
            boolean bytes = thing.kind == Model.BYTES;
            DUE.is("classOf(" + k + ")", reader.classOf(k), thing.classValue);
            DUE.is("size(" + k + ")", reader.size(k), thing.parts.length);
            for (int i = 0; i < thing.parts.length; i++) {
                int part = thing.parts[i];
                DUE.is("field(" + k + ", " + i + ")", reader.field(k, i), bytes ? 0 : part);
                DUE.is("byteAt(" + k + ", " + i + ")", reader.byteAt(k, i), bytes ? part : NONE);
            }
            for (int i : new int[] {-1, thing.parts.length, 300, Integer.MIN_VALUE, Integer.MAX_VALUE}) {
                DUE.is("field(" + k + ", " + i + ")", reader.field(k, i), 0);
                DUE.is("byteAt(" + k + ", " + i + ")", reader.byteAt(k, i), NONE);
            }
        }
    }

    private static void kindsAreRight(ImageReader reader) {
        for (int k = 1; k <= Model.SMALL_COUNT; k++) {
            int want = k == Model.CODE ? 1 : k == Model.CONTEXT ? 2 : k == Model.BLOCK ? 3 : 0;
            DUE.is("kind(" + k + ")", reader.kind(k), want);
        }
    }

    private static void whatIsNotThere(ImageReader reader) {
        for (int k : NO_OBJECTS) {
            DUE.is("kind(" + k + ")", reader.kind(k), NONE);
            DUE.is("classOf(" + k + ")", reader.classOf(k), 0);
            DUE.is("size(" + k + ")", reader.size(k), NONE);
            DUE.is("field(" + k + ", 0)", reader.field(k, 0), 0);
            DUE.is("byteAt(" + k + ", 0)", reader.byteAt(k, 0), NONE);
        }
    }

    private static void aLaterImageTakesItsPlace(ImageReader reader) {
        Model longer = Model.small();
        int many = 400;
        for (int i = 0; i < many; i++) {
            longer.add(Model.PAIR_CLASS, Model.FIELDS, Model.number(i), Model.object(i + 1));
        }
        DUE.is("longer: read()", longer.read(reader), NONE);
        DUE.is("longer: objects()", reader.objects(), Model.SMALL_COUNT + many);
        DUE.is("longer: words()", reader.words(), wordsOf(longer));
        objectsOfTheEnd(longer, reader);
        Model small = Model.small();
        small.specials[20] = 9;
        DUE.is("small again: read()", small.read(reader), NONE);
        DUE.is("small again: objects()", reader.objects(), Model.SMALL_COUNT);
        DUE.is("small again: words()", reader.words(), wordsOf(small));
        DUE.is("small again: special(20)", reader.special(20), 9);
        whatIsNotThere(reader);
    }

    private static void objectsOfTheEnd(Model model, ImageReader reader) {
        for (int k = Model.SMALL_COUNT + 1; k <= model.things.size(); k++) {
            DUE.is("classOf(" + k + ")", reader.classOf(k), model.thing(k).classValue);
            DUE.is("field(" + k + ", 0)", reader.field(k, 0), model.thing(k).parts[0]);
            DUE.is("field(" + k + ", 1)", reader.field(k, 1), model.thing(k).parts[1]);
        }
    }
}
