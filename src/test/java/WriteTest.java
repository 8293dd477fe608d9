import java.util.Arrays;
import java.util.function.Consumer;

/** Promises 14 and 15: reachable and write. */
public final class WriteTest {

    private static final Due DUE = new Due("WriteTest");
    private static final int NONE = ImageReader.NONE;
    private static final int ALL = Model.SMALL_COUNT;

    public static void main(String[] args) {
        promise14WithoutAnImage();
        promise14WhatASpecialValueIs();
        promise14Classes();
        promise14Fields();
        promise14NotByBytesOrNumbers();
        promise14Rings();
        promise14LongChains();
        promise14OneAfterAnother();
        promise15WithoutAnImage();
        promise15ReachableObjectsAlone();
        promise15NumberedAnewInTheirOrder();
        promise15InPlaceOfWhatThereWas();
        promise15WAndEStay();
        promise15ValuesUpToTheirEnds();
        promise15TheImageAtHandStays();
        promise15CanBeReadAgain();
        DUE.end();
    }

    private static void reaches(String what, Model model, int want) {
        DUE.is(what + ": reachable()", Counted.with(model).reachable(), want);
    }

    /** "(0 without one.)" */
    private static void promise14WithoutAnImage() {
        Counted reader = new Counted();
        DUE.is("none: reachable()", reader.reachable(), 0);
        Model ill = Model.small();
        ill.thing(Model.PROCESS).parts[2] = 0;
        DUE.is("refused: read()", reader.read(ill), Model.specialPlace(14));
        DUE.is("none but a refused one: reachable()", reader.reachable(), 0);
    }

    /** "REACHABLE is what a special value is": each of them reaches, from S0 to S49. */
    private static void promise14WhatASpecialValueIs() {
        reaches("all but the block", Model.small(), ALL - 1);
        for (int k = 15; k < 50; k++) {
            Model model = Model.small();
            model.specials[k] = Model.object(Model.BLOCK);
            reaches("the block is S" + k, model, ALL);
        }
        Model model = Model.small();
        model.specials[0] = Model.object(Model.BLOCK);
        reaches("the block is S0, so object 1 is only a receiver", model, ALL);
        model.thing(Model.CONTEXT).parts[4] = 0;
        reaches("the block is S0, object 1 is nothing", model, ALL - 1);
        model.specials[1] = Model.object(1);
        reaches("object 1 is S1, object 2 is nothing", model, ALL - 1);
        model.specials[49] = Model.object(2);
        reaches("object 2 is S49", model, ALL);
    }

    /** The first that is reached leads on as each other does. */
    private static void fromTheFirst() {
        Model model = Model.small();
        int first = model.add(Model.PLAIN_CLASS, Model.FIELDS, 0);
        model.specials[0] = Model.object(first);
        reaches("S0 has nothing", model, ALL);
        model.thing(first).parts[0] = Model.object(Model.BLOCK);
        reaches("by the field of S0", model, ALL + 1);
        int own = model.add(Model.CLASS_CLASS, Model.FIELDS, 0, 0, Model.number(1024));
        model.thing(first).classValue = Model.object(own);
        reaches("by the field and the class of S0", model, ALL + 2);
    }

    /** "and of each reachable object its class" */
    private static void promise14Classes() {
        fromTheFirst();
        Model model = Model.small();
        int own = model.add(Model.CLASS_CLASS, Model.FIELDS, 0, 0, Model.number(1024));
        int used = model.add(own, Model.FIELDS);
        reaches("neither", model, ALL - 1);
        model.specials[30] = Model.object(used);
        reaches("by its class", model, ALL + 1);
        model.specials[30] = Model.object(own);
        reaches("a class does not reach what it is of", model, ALL);
        model.specials[30] = 0;
        model.thing(Model.BLOCK).parts[6] = Model.object(used);
        reaches("from what is not reachable", model, ALL - 1);
        Model ofBytes = Model.small();
        int bytesClass = ofBytes.add(Model.CLASS_CLASS, Model.FIELDS, 0, 0, Model.number(3072));
        int bytes = ofBytes.add(bytesClass, Model.BYTES, 9);
        ofBytes.specials[15] = Model.object(bytes);
        reaches("the class of an object of bytes", ofBytes, ALL + 1);
    }

    /** "and its fields": the first and the last, and those of contexts above the fixed ones. */
    private static void promise14Fields() {
        for (int i : new int[] {0, 1, 254, 255}) {
            Model model = Model.small();
            model.thing(Model.CHARACTERS).parts[i] = Model.object(Model.BLOCK);
            reaches("by field " + i, model, ALL);
        }
        for (int i : new int[] {0, 4, 5, 8}) {
            Model model = Model.small();
            model.thing(Model.CONTEXT).parts[i] = Model.object(Model.BLOCK);
            reaches("by field " + i + " of a context", model, ALL);
        }
        Model model = Model.small();
        model.thing(10).parts = new int[] {0, 0, Model.number(0), Model.object(Model.BLOCK)};
        reaches("by a field of a class behind its shape", model, ALL);
    }

    private static void promise14NotByBytesOrNumbers() {
        Model bytes = Model.small();
        bytes.thing(Model.CODE).parts = new int[] {0, 0, 0, 2 * Model.BLOCK};
        reaches("not by bytes", bytes, ALL - 1);
        Model number = Model.small();
        number.specials[15] = Model.object(Model.BLOCK) + 1;
        number.thing(Model.CHARACTERS).parts[0] = Model.number(Model.BLOCK);
        reaches("not by numbers", number, ALL - 1);
    }

    private static void promise14Rings() {
        Model model = Model.small();
        int one = model.add(Model.PAIR_CLASS, Model.FIELDS, 0, 0);
        model.thing(one).parts[0] = Model.object(one + 1);
        model.add(Model.PAIR_CLASS, Model.FIELDS, Model.object(one), Model.object(one + 1));
        reaches("a ring apart", model, ALL - 1);
        model.specials[49] = Model.object(one + 1);
        reaches("a ring reached", model, ALL + 1);
    }

    private static Model chain(int length) {
        Model model = Model.small();
        for (int i = 1; i <= length; i++) {
            int next = i == length ? 0 : Model.object(ALL + i + 1);
            model.add(Model.PAIR_CLASS, Model.FIELDS, next, Model.number(i));
        }
        return model;
    }

    private static void promise14LongChains() {
        Model model = chain(380);
        reaches("a chain apart", model, ALL - 1);
        model.specials[33] = Model.object(ALL + 1);
        reaches("a chain", model, ALL - 1 + 380);
        model.specials[33] = Model.object(ALL + 380);
        reaches("its last one", model, ALL);
        model.specials[33] = Model.object(ALL + 1);
        model.thing(ALL + 100).parts[0] = 0;
        reaches("a broken chain", model, ALL - 1 + 100);
    }

    /** Nothing of an earlier image tells in a later one. */
    private static void promise14OneAfterAnother() {
        Model cut = chain(60);
        Model whole = chain(60);
        for (int i = 0; i < 20; i++) {
            whole.specials[22 + i] = Model.object(ALL + 1 + 2 * i);
        }
        Counted reader = Counted.with(whole);
        DUE.is("a chain: reachable()", reader.reachable(), ALL - 1 + 60);
        DUE.is("a chain apart: read()", reader.read(cut), NONE);
        DUE.is("a chain apart: reachable()", reader.reachable(), ALL - 1);
        DUE.is("a chain apart again: reachable()", reader.reachable(), ALL - 1);
        DUE.is("a chain again: read()", reader.read(whole), NONE);
        DUE.is("a chain again: reachable()", reader.reachable(), ALL - 1 + 60);
    }

    /** "NONE when there is no image." */
    private static void promise15WithoutAnImage() {
        Counted reader = new Counted();
        DUE.is("none: write()", reader.write(), NONE);
        reader.feed(0x09080706, 0, 0, 0, 5);
        DUE.is("none: write() with bytes", reader.write(), NONE);
        DUE.is("none: came(0)", reader.came(0), 9);
        DUE.is("none: came(19)", reader.came(19), 5);
        DUE.is("none: end(20)", reader.end(20), 20);
        DUE.is("refused: read()", reader.read(), 0);
        DUE.is("none but a refused one: write()", reader.write(), NONE);
        DUE.is("none but a refused one: came(0)", reader.came(0), NONE);
    }

    private static void writes(String what, Model model, byte[] want) {
        DUE.is(what + ": write()", Counted.with(model).write(), want.length);
        Asker asker = new Asker(() -> {
            Counted reader = Counted.with(model);
            reader.write();
            return reader;
        });
        byte[] got = asker.came();
        DUE.is(what + ": first other byte", Arrays.mismatch(got, want), -1);
    }

    /** "with its reachable objects alone": all of them, all but one, and the fewest. */
    private static void promise15ReachableObjectsAlone() {
        Model whole = Model.small();
        whole.specials[49] = Model.object(Model.BLOCK);
        writes("all are reachable", whole, whole.bytes());
        Model want = Model.small();
        want.things.remove(Model.BLOCK - 1);
        writes("the last is not", Model.small(), want.bytes());
        Model more = Model.small();
        more.add(Model.BYTES_CLASS, Model.BYTES, 1, 2, 3);
        more.add(Model.PAIR_CLASS, Model.FIELDS, Model.object(30), Model.object(31));
        writes("the last three are not", more, want.bytes());
        Model many = chain(300);
        many.specials[33] = Model.object(ALL + 1);
        many.specials[49] = Model.object(Model.BLOCK);
        writes("329 are reachable", many, many.bytes());
    }

    /** "numbered anew in their order": an object that nothing reaches stands before each other. */
    private static void promise15NumberedAnewInTheirOrder() {
        Model want = Model.small();
        want.specials[15] = Model.object(Model.BLOCK);
        Model gaps = new Model();
        for (int k = 0; k < 50; k++) {
            gaps.specials[k] = doubled(want.specials[k]);
        }
        int emptyClass = doubled(Model.object(Model.EMPTY_CLASS));
        for (Model.Thing thing : want.things) {
            gaps.things.add(new Model.Thing(emptyClass, Model.FIELDS));
            Model.Thing moved = thing.copy();
            moved.classValue = doubled(thing.classValue);
            for (int i = 0; i < moved.parts.length && moved.kind == Model.FIELDS; i++) {
                moved.parts[i] = doubled(moved.parts[i]);
            }
            gaps.things.add(moved);
        }
        reaches("gaps", gaps, ALL);
        writes("gaps", gaps, want.bytes());
        Model broken = chain(200);
        broken.specials[33] = Model.object(ALL + 1);
        broken.thing(ALL + 100).parts[0] = 0;
        Model cut = chain(100);
        cut.things.remove(Model.BLOCK - 1);
        cut.specials[33] = Model.object(ALL);
        for (int k = ALL; k < ALL + 99; k++) {
            cut.thing(k).parts[0] = Model.object(k + 1);
        }
        writes("a broken chain", broken, cut.bytes());
    }

    private static int doubled(int value) {
        return (value & 1) == 0 ? 2 * value : value;
    }

    /** "The bytes that came in are those of the image .., in place of what there was" */
    private static void promise15InPlaceOfWhatThereWas() {
        Model model = Model.small();
        model.specials[49] = Model.object(Model.BLOCK);
        byte[] want = model.bytes();
        inPlace("nothing", model, want, reader -> { });
        inPlace("a byte", model, want, reader -> {
            reader.feed(-1, -1, -1, -1, -1);
            reader.end(1);
        });
        inPlace("more bytes", model, want, reader -> {
            for (int i = 0; i < 130; i++) {
                reader.feed(-1, -1, -1, -1, -1);
            }
        });
        inPlace("what was written", model, want, Counted::write);
        Counted reader = Counted.with(model);
        reader.write();
        reader.feed(0x05060708, 0, 0, 0, 0);
        DUE.is("fed behind the written", reader.came(want.length), 5);
        DUE.is("end() of both", reader.end(3), want.length + 20);
    }

    private static void inPlace(String what, Model model, byte[] want, Consumer<Counted> before) {
        Asker asker = new Asker(() -> {
            Counted reader = Counted.with(model);
            before.accept(reader);
            DUE.is("in place of " + what + ": write()", reader.write(), want.length);
            DUE.is("in place of " + what + ": end()", reader.end(want.length), want.length);
            return reader;
        });
        int other = Arrays.mismatch(asker.came(), want);
        DUE.is("in place of " + what + ": first other byte", other, -1);
    }

    /** "w and e stay" */
    private static void promise15WAndEStay() {
        for (int w = 12; w <= 18; w++) {
            for (int e = 10; e <= 14; e++) {
                Model model = Model.small();
                model.w = w;
                model.e = e;
                Counted reader = Counted.with(model);
                reader.write();
                DUE.is("w " + w + " stays", reader.came(4), w);
                DUE.is("e " + e + " stays", reader.came(5), e);
            }
        }
    }

    private static void promise15ValuesUpToTheirEnds() {
        Model model = Model.small();
        model.specials[15] = Integer.MIN_VALUE + 1;
        model.specials[48] = Integer.MAX_VALUE;
        model.specials[49] = Model.object(Model.BLOCK);
        model.thing(Model.CHARACTERS).parts[0] = -1;
        model.thing(Model.CHARACTERS).parts[254] = Integer.MAX_VALUE;
        model.thing(Model.CHARACTERS).parts[255] = Integer.MIN_VALUE + 1;
        model.thing(Model.CODE).parts = new int[] {0, 1, 127, 128, 254, 255};
        int empty = model.add(Model.BYTES_CLASS, Model.BYTES);
        model.specials[40] = Model.object(empty);
        int large = model.add(Model.BYTES_CLASS, Model.BYTES, new int[513]);
        model.specials[41] = Model.object(large);
        writes("values up to their ends", model, model.bytes());
    }

    private static void promise15TheImageAtHandStays() {
        Asker before = new Asker(() -> Counted.with(Model.small()));
        Asker after = new Asker(() -> {
            Counted reader = Counted.with(Model.small());
            reader.write();
            reader.change(8, 255);
            reader.end(0);
            return reader;
        });
        DUE.isText("the image behind write(), change() and end()", after.state(), before.state());
    }

    private static void promise15CanBeReadAgain() {
        Model want = Model.small();
        want.things.remove(Model.BLOCK - 1);
        Counted reader = Counted.with(Model.small());
        DUE.is("write()", reader.write(), want.bytes().length);
        DUE.is("read() of what was written", reader.read(), NONE);
        DUE.is("objects() of what was written", reader.objects(), ALL - 1);
        DUE.is("words() of what was written", reader.words(), want.words());
        DUE.is("reachable() of what was written", reader.reachable(), ALL - 1);
        DUE.is("written once more", reader.write(), want.bytes().length);
        DUE.is("change() of w", reader.change(4, 13), 12);
        DUE.is("read() of the changed", reader.read(), NONE);
        reader.write();
        DUE.is("the changed w", reader.came(4), 13);
        DUE.is("change() of byte 0", reader.change(0, 78), 77);
        DUE.is("read() of the ill", reader.read(), 0);
    }
}
