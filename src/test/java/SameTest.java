import java.util.Arrays;

/** Promises 17 and 18: keep and same. */
public final class SameTest {

    private static final Due DUE = new Due("SameTest");
    private static final int NONE = ImageReader.NONE;

    public static void main(String[] args) {
        promise17WithoutAnImage();
        promise17Remembers();
        promise17InPlaceOfWhatWasRemembered();
        promise17RefusalsLeaveIt();
        promise18WhenThereIsNone();
        promise18ButForTheNumbers();
        promise18ButForWhatIsNotReachable();
        promise18WAndE();
        promise18SpecialValues();
        promise18Classes();
        promise18Fields();
        promise18Bytes();
        promise18OneIsNotTwo();
        promise18OneAfterAnother();
        promise18ChangesNothing();
        DUE.end();
    }

    private static Model other(int value) {
        Model model = Model.small();
        model.specials[40] = Model.number(value);
        return model;
    }

    /** "Answers true; false when there is none." */
    private static void promise17WithoutAnImage() {
        Counted reader = new Counted();
        DUE.is("none: keep()", reader.keep(), false);
        reader.feed(1, 2, 3, 4, 5);
        DUE.is("bytes alone: keep()", reader.keep(), false);
        reader.read();
        DUE.is("none but a refused one: keep()", reader.keep(), false);
        DUE.is("none kept: same()", reader.same(), false);
        DUE.is("read()", reader.read(Model.small()), NONE);
        DUE.is("what was refused is not remembered: same()", reader.same(), false);
        DUE.is("keep()", reader.keep(), true);
        DUE.is("keep() again", reader.keep(), true);
        DUE.is("itself: same()", reader.same(), true);
    }

    private static void look(String what, Counted reader, Model model, boolean same) {
        DUE.is(what + ": read()", reader.read(model), NONE);
        DUE.is(what + ": same()", reader.same(), same);
        DUE.is(what + ": special(40)", reader.special(40), model.specials[40]);
    }

    /** "Remembers the image at hand": it outlives later images, and bytes that change. */
    private static void promise17Remembers() {
        Counted reader = new Counted();
        look("1, none kept", reader, other(1), false);
        reader.keep();
        look("2, 1 kept", reader, other(2), false);
        look("3, 1 kept", reader, other(3), false);
        look("1, 1 kept", reader, other(1), true);
        Counted written = Counted.with(other(1));
        written.keep();
        written.write();
        written.change(8 + 4 * 40 + 3, 99);
        DUE.is("changed bytes: same()", written.same(), true);
        DUE.is("changed bytes: read()", written.read(), NONE);
        DUE.is("changed image: same()", written.same(), false);
        DUE.is("changed image: special(40)", written.special(40), 99);
    }

    /** "in place of what was remembered" */
    private static void promise17InPlaceOfWhatWasRemembered() {
        Counted reader = new Counted();
        for (int i = 1; i < 3; i++) {
            look(i + ", not kept", reader, other(i), false);
            DUE.is(i + ": keep()", reader.keep(), true);
            DUE.is(i + " kept: same()", reader.same(), true);
        }
        look("1 again, 2 kept", reader, other(1), false);
        look("2 again, 2 kept", reader, other(2), true);
    }

    private static void promise17RefusalsLeaveIt() {
        Counted reader = Counted.with(other(1));
        reader.keep();
        DUE.is("empty: read()", reader.read(), 0);
        DUE.is("empty: same() stays", reader.same(), true);
        Model ill = other(2);
        ill.thing(Model.PROCESS).parts[2] = 0;
        DUE.is("ill: read()", reader.read(ill), Model.specialPlace(14));
        DUE.is("ill: same() stays", reader.same(), true);
        look("2, 1 kept", reader, other(2), false);
        DUE.is("ill again: read()", reader.read(ill), Model.specialPlace(14));
        DUE.is("ill again: same() stays", reader.same(), false);
    }

    /** "False when there is none.": neither, only one at hand, and both. */
    private static void promise18WhenThereIsNone() {
        Counted reader = new Counted();
        DUE.is("neither: same()", reader.same(), false);
        DUE.is("read()", reader.read(Model.small()), NONE);
        DUE.is("none remembered: same()", reader.same(), false);
        DUE.is("read() again", reader.read(Model.small()), NONE);
        DUE.is("none remembered still: same()", reader.same(), false);
        reader.keep();
        DUE.is("both: same()", reader.same(), true);
    }

    /** The one kept and the other at hand, and the other way round. */
    private static void same(String what, Model one, Model two, boolean want) {
        Counted reader = Counted.with(one);
        reader.keep();
        DUE.is(what + ": read()", reader.read(two), NONE);
        DUE.is(what + ": same()", reader.same(), want);
        Counted back = Counted.with(two);
        back.keep();
        DUE.is(what + ", back: read()", back.read(one), NONE);
        DUE.is(what + ", back: same()", back.same(), want);
    }

    /** "the same but for the numbers of reachable objects" */
    private static void promise18ButForTheNumbers() {
        Model model = Model.small();
        model.specials[40] = Model.object(Model.BLOCK);
        same("itself", model, model, true);
        same("the other way round", model, model.reversed(), true);
        Model longer = Model.small();
        for (int i = 0; i < 140; i++) {
            longer.add(Model.PAIR_CLASS, Model.FIELDS, Model.object(Model.SMALL_COUNT + i), 1);
        }
        longer.specials[41] = Model.object(longer.things.size());
        same("longer, the other way round", longer, longer.reversed(), true);
        same("longer and small", longer, Model.small(), false);
        Model broken = longer.reversed();
        broken.thing(1).parts[1] = 3;
        same("longer, the first number is another", longer, broken, false);
        broken = longer.reversed();
        broken.thing(139).parts[1] = 3;
        same("longer, the last number is another", longer, broken, false);
        longer.specials[40] = Model.object(Model.BLOCK);
        broken = longer.copy();
        broken.thing(Model.SMALL_COUNT + 1).parts[1] = 3;
        same("all are reachable, the last that is met has another number", longer, broken, false);
        Model two = model.copy();
        two.specials[0] = model.specials[1];
        two.specials[1] = model.specials[0];
        two.thing(Model.CONTEXT).parts[4] = two.specials[0];
        same("two that are alike are numbered the other way", model, two, true);
    }

    /** "and for all that is not reachable" */
    private static void promise18ButForWhatIsNotReachable() {
        Model without = Model.small();
        without.things.remove(Model.BLOCK - 1);
        same("without the block", Model.small(), without, true);
        Model changed = Model.small();
        changed.thing(Model.BLOCK).parts[3] = Model.number(1);
        same("another block", Model.small(), changed, true);
        changed.specials[30] = Model.object(Model.BLOCK);
        same("another block that is reachable", Model.small(), changed, false);
        Model block = Model.small();
        block.specials[30] = Model.object(Model.BLOCK);
        same("a reachable block of another number of arguments", block, changed, false);
        Model more = Model.small();
        for (int i = 0; i < 300; i++) {
            more.add(Model.BYTES_CLASS, Model.BYTES, i & 255);
        }
        same("300 more", Model.small(), more, true);
        same("300 more before", Model.small(), more.reversed(), true);
    }

    /** "w, e" */
    private static void promise18WAndE() {
        for (int w = 12; w <= 18; w++) {
            Model model = Model.small();
            model.w = w;
            same("w 12 and " + w, Model.small(), model, w == 12);
        }
        for (int e = 10; e <= 14; e++) {
            Model model = Model.small();
            model.e = e;
            same("e 10 and " + e, Model.small(), model, e == 10);
        }
    }

    private static Model with(int special, int value) {
        Model model = Model.small();
        model.specials[special] = value;
        return model;
    }

    /** "special values": each of them, by all that a value can be. */
    private static void promise18SpecialValues() {
        for (int k = 15; k < 50; k++) {
            same("another S" + k, Model.small(), with(k, Model.number(77)), false);
            same("the same S" + k, with(k, Model.number(77)), with(k, Model.number(77)), true);
        }
        int[] values = {0, 1, 3, -1, Integer.MIN_VALUE + 1, Integer.MAX_VALUE, 2, 4, 6};
        for (int one : values) {
            for (int two : values) {
                same("S45 " + one + " and " + two, with(45, one), with(45, two), one == two);
            }
        }
        same("another S0", Model.small(), with(0, Model.object(Model.CODE)), false);
        same("another S1", Model.small(), with(1, Model.object(Model.CODE)), false);
        int[] plainClasses = {2, 3, 4, 5, 6, 9, 10, 11, 12};
        for (int i = 1; i < plainClasses.length; i++) {
            Model swapped = Model.small();
            int k = plainClasses[i - 1];
            swapped.specials[k] = Model.object(plainClasses[i] + 1);
            swapped.specials[plainClasses[i]] = Model.object(k + 1);
            same("S" + k + " and the next for one another", Model.small(), swapped, false);
        }
        anotherOfTheSameParts(13, Model.CHARACTERS);
        anotherOfTheSameParts(14, Model.SCHEDULER);
    }

    /** S40 is alike the special value, but only in the one image it is the same object. */
    private static void anotherOfTheSameParts(int k, int object) {
        Model apart = Model.small();
        apart.things.add(apart.thing(object).copy());
        apart.specials[40] = Model.object(apart.things.size());
        Model turned = apart.copy();
        turned.specials[40] = apart.specials[k];
        turned.specials[k] = apart.specials[40];
        same("S" + k + " and S40 are alike, in both", apart, turned, true);
        same("S" + k + " and S40 are one in one", apart, with(40, Model.object(object)), false);
    }

    /** "classes" */
    private static void promise18Classes() {
        Model model = Model.small();
        model.thing(1).classValue = Model.object(10);
        same("another class of the same shape", Model.small(), model, false);
        Model own = Model.small();
        int a = own.add(Model.CLASS_CLASS, Model.FIELDS, 0, 0, Model.number(0));
        int b = own.add(Model.CLASS_CLASS, Model.FIELDS, 0, 0, Model.number(0));
        own.thing(1).classValue = Model.object(a);
        own.thing(2).classValue = Model.object(b);
        Model crossed = own.copy();
        crossed.thing(1).classValue = Model.object(b);
        crossed.thing(2).classValue = Model.object(a);
        same("classes that nothing else tells apart", own, crossed, true);
        Model one = own.copy();
        one.thing(2).classValue = Model.object(a);
        same("one class for two", own, one, false);
    }

    /** "fields": the first, the last, one more, one fewer. */
    private static void promise18Fields() {
        for (int i : new int[] {0, 1, 254, 255}) {
            for (int value : new int[] {1, Model.object(1)}) {
                Model model = Model.small();
                model.thing(Model.CHARACTERS).parts[i] = value;
                same("field " + i + " is " + value, Model.small(), model, false);
            }
        }
        for (int size : new int[] {4, 5, 6}) {
            Model model = Model.small();
            int[] parts = model.thing(Model.PROCESS).parts;
            model.thing(Model.PROCESS).parts = Arrays.copyOf(parts, size);
            same(size + " fields for 4", Model.small(), model, size == 4);
        }
    }

    /** "and bytes": the first, the last, one more, one fewer, none. */
    private static void promise18Bytes() {
        for (int i = 0; i < 5; i++) {
            Model model = Model.small();
            model.thing(Model.CODE).parts[i] ^= 128;
            same("byte " + i + " is another", Model.small(), model, false);
        }
        for (int size = 0; size < 8; size++) {
            Model model = Model.small();
            model.thing(Model.CODE).parts = Arrays.copyOf(model.thing(Model.CODE).parts, size);
            same(size + " bytes for 5", Model.small(), model, size == 5);
        }
        Model likeValues = Model.small();
        likeValues.thing(Model.CODE).parts = new int[] {2, 4};
        Model other = likeValues.copy();
        other.thing(Model.CODE).parts = new int[] {4, 2};
        same("bytes are no numbers of objects", likeValues, other, false);
    }

    /** Two alike are not one twice, whichever of the two images has which. */
    private static void promise18OneIsNotTwo() {
        Model two = Model.small();
        int a = two.add(Model.PAIR_CLASS, Model.FIELDS, 0, 0);
        int b = two.add(Model.PAIR_CLASS, Model.FIELDS, 0, 0);
        two.specials[40] = Model.object(a);
        two.specials[41] = Model.object(b);
        Model one = two.copy();
        one.specials[41] = Model.object(a);
        same("two and one", two, one, false);
        Model crossed = two.copy();
        crossed.specials[40] = Model.object(b);
        crossed.specials[41] = Model.object(a);
        same("two and the same two crossed", two, crossed, true);
        two.thing(a).parts[0] = Model.object(a);
        two.thing(b).parts[0] = Model.object(b);
        Model linked = two.copy();
        linked.thing(a).parts[0] = Model.object(b);
        linked.thing(b).parts[0] = Model.object(a);
        same("two rings and one", two, linked, false);
    }

    /** Nothing of an earlier comparison tells in a later one, be it of more objects or of fewer. */
    private static void promise18OneAfterAnother() {
        Model more = Model.small();
        for (int i = 0; i < 20; i++) {
            more.add(Model.PAIR_CLASS, Model.FIELDS, Model.object(Model.SMALL_COUNT + i), 1);
        }
        Model cut = more.copy();
        for (int i = 0; i < 20; i++) {
            more.specials[22 + i] = Model.object(Model.SMALL_COUNT + 1 + i);
        }
        Counted reader = new Counted();
        for (Model model : new Model[] {more, cut, more}) {
            DUE.is("more or fewer: read()", reader.read(model), NONE);
            DUE.is("more or fewer, before keep(): same()", reader.same(), false);
            reader.keep();
            DUE.is("more or fewer, behind keep(): same()", reader.same(), true);
        }
        ofTheSameNumbers();
    }

    private static void ofTheSameNumbers() {
        int plainClass = Model.object(Model.PLAIN_CLASS + 1);
        Model shifted = Model.small().behind(new Model.Thing(plainClass, Model.FIELDS, 1, 3, 5));
        Counted reader = Counted.with(Model.small());
        reader.keep();
        DUE.is("itself: same()", reader.same(), true);
        DUE.is("itself again: same()", reader.same(), true);
        DUE.is("shifted: read()", reader.read(shifted), NONE);
        DUE.is("shifted: same()", reader.same(), true);
        reader.keep();
        DUE.is("shifted, itself: same()", reader.same(), true);
        Model changed = shifted.copy();
        changed.thing(Model.CHARACTERS + 1).parts[255] = Model.number(1);
        DUE.is("changed: read()", reader.read(changed), NONE);
        DUE.is("of the same numbers, but changed: same()", reader.same(), false);
        DUE.is("again: same()", reader.same(), false);
        DUE.is("shifted again: read()", reader.read(shifted), NONE);
        DUE.is("shifted again: same()", reader.same(), true);
    }

    private static Counted kept() {
        Counted reader = Counted.with(other(1));
        reader.keep();
        reader.read(other(2));
        reader.feed(1, 2, 3, 4, 5);
        return reader;
    }

    private static void promise18ChangesNothing() {
        Asker after = new Asker(() -> {
            Counted reader = kept();
            reader.same();
            reader.reachable();
            reader.same();
            return reader;
        });
        DUE.isText("the state behind same()", after.state(), new Asker(SameTest::kept).state());
    }
}
