/** Promises 17 and 18: keep and same. */
public final class SameTest {

    private static final Due DUE = new Due("SameTest");
    private static final int NONE = ImageReader.NONE;

    public static void main(String[] args) {
        withoutImages();
        keepRemembers();
        numbersDoNotCount();
        whatIsNotReachableDoesNotCount();
        everythingElseCounts();
        oneIsNotTwo();
        DUE.end();
    }

    private static void withoutImages() {
        ImageReader reader = new ImageReader();
        DUE.is("nothing: keep()", reader.keep(), false);
        DUE.is("nothing: same()", reader.same(), false);
        DUE.is("read()", Model.small().read(reader), NONE);
        DUE.is("nothing remembered: same()", reader.same(), false);
        DUE.is("keep()", reader.keep(), true);
        DUE.is("itself: same()", reader.same(), true);
    }

    private static Model other(int value) {
        Model model = Model.small();
        model.specials[40] = Model.number(value);
        return model;
    }

    private static void look(String what, ImageReader reader, Model model, boolean same) {
        DUE.is(what + ": read()", model.read(reader), NONE);
        DUE.is(what + ": same()", reader.same(), same);
        DUE.is(what + ": special(40)", reader.special(40), model.specials[40]);
    }

    /** What is remembered outlives any number of later images. */
    private static void keepRemembers() {
        ImageReader reader = new ImageReader();
        look("1, none kept", reader, other(1), false);
        reader.keep();
        for (int i = 2; i < 5; i++) {
            look(i + ", 1 kept", reader, other(i), false);
        }
        look("1, 1 kept", reader, other(1), true);
        DUE.is("refused: read()", reader.read(), 0);
        DUE.is("refused: same() stays", reader.same(), true);
        look("5, 1 kept", reader, other(5), false);
        DUE.is("keep() again", reader.keep(), true);
        DUE.is("keep() twice", reader.keep(), true);
        look("1, 5 kept", reader, other(1), false);
        look("6, 5 kept", reader, other(6), false);
        look("5, 5 kept", reader, other(5), true);
        Model ill = other(5);
        ill.thing(Model.PROCESS).parts[2] = 0;
        DUE.is("ill: read()", ill.read(reader), Model.specialPlace(14));
        DUE.is("ill: same() stays", reader.same(), true);
        reader.write();
        reader.change(8 + 4 * 40 + 3, 99);
        DUE.is("bytes do not change what is remembered: same()", reader.same(), true);
        DUE.is("changed: read()", reader.read(), NONE);
        DUE.is("changed: same()", reader.same(), false);
    }

    private static boolean same(Model one, Model two) {
        ImageReader reader = new ImageReader();
        DUE.is("one: read()", one.read(reader), NONE);
        reader.keep();
        DUE.is("two: read()", two.read(reader), NONE);
        boolean same = reader.same();
        reader.keep();
        one.read(reader);
        DUE.is("same() the other way round", reader.same(), same);
        return same;
    }

    /** Object k becomes object count + 1 - k. */
    static Model reversed(Model model) {
        Model turned = model.copy();
        java.util.Collections.reverse(turned.things);
        int count = model.things.size();
        for (int k = 0; k < 50; k++) {
            turned.specials[k] = turned(turned.specials[k], count);
        }
        for (Model.Thing thing : turned.things) {
            thing.classValue = turned(thing.classValue, count);
            for (int i = 0; i < thing.parts.length && thing.kind == Model.FIELDS; i++) {
                thing.parts[i] = turned(thing.parts[i], count);
            }
        }
        return turned;
    }

    private static int turned(int value, int count) {
        return (value & 1) != 0 || value == 0 ? value : Model.object(count + 1 - value / 2);
    }

    private static void numbersDoNotCount() {
        Model model = Model.small();
        model.specials[40] = Model.object(Model.BLOCK);
        DUE.isTrue("the other way round", same(model, reversed(model)));
        Model longer = Model.small();
        for (int i = 0; i < 200; i++) {
            longer.add(Model.PAIR_CLASS, Model.FIELDS, Model.object(Model.SMALL_COUNT + i), 1);
        }
        longer.specials[41] = Model.object(longer.things.size());
        DUE.isTrue("longer, the other way round", same(longer, reversed(longer)));
        DUE.is("longer and small", same(longer, Model.small()), false);
        Model broken = reversed(longer);
        broken.thing(1).parts[1] = 3;
        DUE.is("longer, one number is another", same(longer, broken), false);
    }

    private static void whatIsNotReachableDoesNotCount() {
        Model without = Model.small();
        without.things.remove(Model.BLOCK - 1);
        DUE.isTrue("without the block", same(Model.small(), without));
        Model changed = Model.small();
        changed.thing(Model.BLOCK).parts[3] = Model.number(1);
        DUE.isTrue("another block", same(Model.small(), changed));
        Model more = Model.small();
        for (int i = 0; i < 300; i++) {
            more.add(Model.BYTES_CLASS, Model.BYTES, i & 255);
        }
        DUE.isTrue("300 more", same(Model.small(), more));
        DUE.isTrue("300 more before", same(Model.small(), reversed(more)));
    }

    private static void everythingElseCounts() {
        Model model = Model.small();
        model.w = 13;
        DUE.is("another w", same(Model.small(), model), false);
        model = Model.small();
        model.e = 11;
        DUE.is("another e", same(Model.small(), model), false);
        for (int k = 15; k < 50; k++) {
            model = Model.small();
            model.specials[k] = Model.number(77);
            DUE.is("another S" + k, same(Model.small(), model), false);
        }
        model = Model.small();
        model.specials[45] = Model.object(1);
        DUE.is("S45 an object, not nil", same(Model.small(), model), false);
        Model number = Model.small();
        number.specials[45] = Model.number(1);
        DUE.is("S45 an object, not a number", same(number, model), false);
        model = Model.small();
        model.thing(Model.CODE).parts[4] = 8;
        DUE.is("another byte", same(Model.small(), model), false);
        model = Model.small();
        model.thing(Model.CODE).parts = new int[] {1, 128, 255, 0};
        DUE.is("a byte less", same(Model.small(), model), false);
        model = Model.small();
        model.thing(Model.CHARACTERS).parts[255] = 1;
        DUE.is("another field", same(Model.small(), model), false);
        model = Model.small();
        model.thing(Model.PROCESS).parts = java.util.Arrays.copyOf(model.thing(Model.PROCESS).parts, 5);
        DUE.is("a field more", same(Model.small(), model), false);
        model = Model.small();
        model.thing(1).classValue = Model.object(10);
        DUE.is("another class of the same shape", same(Model.small(), model), false);
    }

    /** Two alike are not one twice, whichever of the two images has which. */
    private static void oneIsNotTwo() {
        Model two = Model.small();
        int a = two.add(Model.PAIR_CLASS, Model.FIELDS, 0, 0);
        int b = two.add(Model.PAIR_CLASS, Model.FIELDS, 0, 0);
        two.specials[40] = Model.object(a);
        two.specials[41] = Model.object(b);
        Model one = two.copy();
        one.specials[41] = Model.object(a);
        DUE.is("two and one", same(two, one), false);
        Model crossed = two.copy();
        crossed.specials[40] = Model.object(b);
        crossed.specials[41] = Model.object(a);
        DUE.isTrue("two and the same two crossed", same(two, crossed));
        two.thing(a).parts[0] = Model.object(a);
        two.thing(b).parts[0] = Model.object(b);
        Model linked = two.copy();
        linked.thing(a).parts[0] = Model.object(b);
        linked.thing(b).parts[0] = Model.object(a);
        DUE.is("two rings and one", same(two, linked), false);
    }
}
