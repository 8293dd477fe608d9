import java.util.Arrays;

/** 'Terms': values, special values, what a context is, classes and methods. */
public final class TermsTest {

    private static final Due DUE = new Due("TermsTest");
    private static final int NONE = ImageReader.NONE;
    private static final int LEAST_NUMBER = -1073741824;
    private static final int LARGEST_NUMBER = 1073741823;

    public static void main(String[] args) {
        numbersUpToTheirEnds();
        objectsFromOneToN();
        nothingElseIsAValue();
        bytesUpToTheirEnds();
        specialValuesUpToTheirEnds();
        contextsAreOfS7OrS8();
        classOfThreeFieldsOrMore();
        shapeIsANumber();
        shapeOfFields();
        shapeOfBytes();
        eachShape();
        methodOfTwoFieldsOrMore();
        methodHeadIsANumberOfZeroOrMore();
        argumentsAndTemporaries();
        depthOfAMethod();
        lastPartOfAMethodHead();
        methodHasAnObjectOfBytes();
        DUE.end();
    }

    /** "NIL is 0, a NUMBER n (-1073741824 .. 1073741823) is 2 n + 1" */
    private static void numbersUpToTheirEnds() {
        for (int n : new int[] {LEAST_NUMBER, LEAST_NUMBER + 1, -1, 0, 1, LARGEST_NUMBER - 1,
            LARGEST_NUMBER}) {
            isAnsweredAsItCame("number " + n, 2 * n + 1);
        }
        isAnsweredAsItCame("nil", 0);
        DUE.is("the least number", Model.number(LEAST_NUMBER), Integer.MIN_VALUE + 1);
        DUE.is("the largest number", Model.number(LARGEST_NUMBER), Integer.MAX_VALUE);
    }

    private static void isAnsweredAsItCame(String what, int value) {
        Model model = Model.small();
        model.specials[15] = value;
        model.specials[49] = value;
        model.thing(Model.PROCESS).parts[3] = value;
        DUE.isWell(what, model);
        Counted reader = Counted.with(model);
        DUE.is(what + ": special(15)", reader.special(15), value);
        DUE.is(what + ": special(49)", reader.special(49), value);
        DUE.is(what + ": field", reader.field(Model.PROCESS, 3), value);
    }

    /** "OBJECT k is 2 k", "an object from 1 to N": 1 and N, and on either side of them. */
    private static void objectsFromOneToN() {
        for (int n : new int[] {Model.SMALL_COUNT, 127, 128, 255, 256}) {
            for (int k : new int[] {-1, 0, 1, 2, n - 1, n, n + 1, n + 2}) {
                isAValue("object " + k + " of " + n, Model.small().fillObjects(n), 2 * k,
                    k >= 0 && k <= n);
            }
        }
    }

    /** "nothing else is one": even ones at both ends, and such as are objects by their low bits. */
    private static void nothingElseIsAValue() {
        int least = Integer.MIN_VALUE;
        int most = Integer.MAX_VALUE;
        for (int value : new int[] {least, least + 2, -2, most - 1, (1 << 30) + 2, (1 << 24) + 2,
            (1 << 16) + 2, (1 << 8) + 2}) {
            isAValue("value " + value, Model.small(), value, false);
        }
        for (int value : new int[] {least + 1, -1, 1, most, (1 << 16) + 1}) {
            isAValue("value " + value, Model.small(), value, true);
        }
    }

    /** As a special value, a field and a class; what follows an image is told only behind these. */
    private static void isAValue(String what, Model model, int value, boolean good) {
        int rest = model.bytes().length;
        for (int k : new int[] {0, 14, 15, 49}) {
            Model special = model.copy();
            special.specials[k] = value;
            longer(what + " as S" + k, special, good ? rest : Model.specialPlace(k));
        }
        for (int k : new int[] {1, Model.CODE, model.things.size()}) {
            Model ofClass = model.copy();
            ofClass.thing(k).classValue = value;
            longer(what + " as the class of " + k, ofClass, good ? rest : model.place(k));
        }
        for (int i : new int[] {0, 255}) {
            Model field = model.copy();
            field.thing(Model.CHARACTERS).parts[i] = value;
            int place = model.fieldPlace(Model.CHARACTERS, i);
            longer(what + " as field " + i, field, good ? rest : place);
        }
    }

    private static void longer(String what, Model model, int place) {
        byte[] bytes = model.bytes();
        DUE.reads(what, Arrays.copyOf(bytes, bytes.length + 1), place);
    }

    /** "of BYTES, each 0 .. 255" */
    private static void bytesUpToTheirEnds() {
        Model model = Model.small();
        model.thing(Model.CODE).parts = new int[] {0, 1, 127, 128, 254, 255};
        DUE.isWell("bytes up to their ends", model);
        Counted reader = Counted.with(model);
        for (int i = 0; i < 6; i++) {
            int want = model.thing(Model.CODE).parts[i];
            DUE.is("byteAt(26, " + i + ")", reader.byteAt(Model.CODE, i), want);
        }
    }

    /** "THE SPECIAL VALUES are S0 .. S49." */
    private static void specialValuesUpToTheirEnds() {
        Model model = Model.small();
        for (int k = 15; k < 50; k++) {
            model.specials[k] = Model.number(100 + k);
        }
        Counted reader = Counted.with(model);
        for (int k = 0; k < 50; k++) {
            DUE.is("special(" + k + ")", reader.special(k), model.specials[k]);
        }
        DUE.is("special(-1)", reader.special(-1), 0);
        DUE.is("special(50)", reader.special(50), 0);
        byte[] bytes = model.bytes();
        DUE.reads("cut before S49", Arrays.copyOf(bytes, 204), 204);
        DUE.reads("cut before the first object", Arrays.copyOf(bytes, 208), 208);
    }

    /** "A CONTEXT is an object whose class is S7 or S8.": those of S6 and S9 are as they like. */
    private static void contextsAreOfS7OrS8() {
        for (int special = 6; special <= 9; special++) {
            Model model = Model.small();
            model.thing(7).parts[2] = Model.number(1024);
            model.thing(10).parts[2] = Model.number(1024);
            int k = model.add(special + 1, Model.FIELDS, new int[12]);
            boolean plain = special == 6 || special == 9;
            DUE.isWellIf(plain, "of S" + special + " and no context", model, model.place(k));
            model.specials[14] = Model.object(k);
            model.thing(k).parts[0] = Model.object(Model.LISTS);
            model.thing(k).parts[1] = Model.object(Model.PROCESS);
            DUE.isWellIf(plain, "S14 of S" + special, model, Model.specialPlace(14));
        }
        Model moved = Model.small();
        moved.specials[7] = Model.object(10);
        moved.specials[9] = Model.object(8);
        DUE.reads("S7 is another class", moved, moved.place(Model.BLOCK));
        moved.things.remove(Model.BLOCK - 1);
        DUE.reads("S7 is another class, no block", moved, Model.specialPlace(14));
        Counted reader = Counted.with(Model.small());
        DUE.is("kind of S7's", reader.kind(Model.CONTEXT), 2);
        DUE.is("kind of S8's", reader.kind(Model.BLOCK), 3);
        contextsOfTheFirstNumber();
    }

    private static void contextsOfTheFirstNumber() {
        Model block = Model.small().reversed();
        DUE.isWell("object 1 a block context", block);
        DUE.is("object 1 a block context: kind(1)", Counted.with(block).kind(1), 3);
        block.thing(1).parts[3] = 0;
        DUE.reads("object 1 an ill block context", block, 208);
        Model without = Model.small();
        without.things.remove(Model.BLOCK - 1);
        Model context = without.reversed();
        DUE.isWell("object 1 a method context", context);
        DUE.is("object 1 a method context: kind(1)", Counted.with(context).kind(1), 2);
        context.thing(1).parts[1] = -1;
        DUE.reads("object 1 an ill method context", context, 208);
    }

    /** Object 10 is S9 and the class of nothing; object 31 is a class that is not special. */
    private static void isClass(String what, int kind, boolean good, int... parts) {
        Model special = Model.small();
        special.thing(10).kind = kind;
        special.thing(10).parts = parts;
        if (kind == Model.BYTES) {
            special.thing(10).classValue = Model.object(Model.BYTES_CLASS);
        }
        DUE.isWellIf(good, what + " as S9", special, Model.specialPlace(9));
        Model plain = Model.small();
        int used = plain.add(0, Model.FIELDS, new int[fieldsFor(parts)]);
        int own = kind == Model.BYTES ? Model.BYTES_CLASS : Model.PLAIN_CLASS;
        plain.thing(used).classValue = Model.object(plain.add(own, kind, parts));
        if (good && (numberAt(parts) & 2048) != 0) {
            plain.thing(used).kind = Model.BYTES;
        }
        DUE.isWellIf(good, what + " as a class", plain, plain.place(used));
    }

    private static int numberAt(int[] parts) {
        return parts.length > 2 ? parts[2] >> 1 : 0;
    }

    private static int fieldsFor(int[] parts) {
        return numberAt(parts) & 255;
    }

    /** "A CLASS is an object of three fields or more" */
    private static void classOfThreeFieldsOrMore() {
        int shape = Model.number(2);
        isClass("no fields", Model.FIELDS, false);
        isClass("one field", Model.FIELDS, false, shape);
        isClass("two fields", Model.FIELDS, false, shape, shape);
        isClass("three fields", Model.FIELDS, true, 0, 0, shape);
        isClass("four fields", Model.FIELDS, true, 0, 0, shape, 0);
        isClass("fields that are anything", Model.FIELDS, true, 1, Model.object(4), shape, 5, -1);
        isClass("three bytes", Model.BYTES, false, 0, 0, 5);
        isClass("twelve bytes", Model.BYTES, false, 0, 0, 0, 5, 0, 0, 0, 5, 0, 0, 0, 5);
        isClass("no bytes", Model.BYTES, false);
    }

    /** "of which field 2 is its SHAPE, a number" */
    private static void shapeIsANumber() {
        isClass("shape nil", Model.FIELDS, false, 1, 1, 0, 1);
        isClass("shape an object", Model.FIELDS, false, 1, 1, Model.object(1), 1);
        isClass("shape the last object", Model.FIELDS, false, 1, 1, Model.object(29), 1);
        isClass("shape -1", Model.FIELDS, false, 1, 1, Model.number(-1), 1);
        isClass("shape 0", Model.FIELDS, true, 0, 0, Model.number(0), 0);
        isClass("shape 1", Model.FIELDS, true, 0, 0, Model.number(1), 0);
    }

    private static void shape(int shape, boolean good) {
        isClass("shape " + shape, Model.FIELDS, good, 0, 0, Model.number(shape));
    }

    /** "F + 1024 I + 2048 B, with F 0 .. 255, I and B 0 or 1" */
    private static void shapeOfFields() {
        for (int indexed : new int[] {0, 1024}) {
            shape(indexed, true);
            shape(indexed + 1, true);
            shape(indexed + 254, true);
            shape(indexed + 255, true);
            shape(indexed + 256, false);
            shape(indexed + 257, false);
            shape(indexed + 511, false);
            shape(indexed + 512, false);
            shape(indexed + 1023, false);
        }
    }

    /** "and if B is 1, F is 0 and I is 1": 3072 and nothing about it. */
    private static void shapeOfBytes() {
        for (int shape : new int[] {2048, 2049, 2303, 2304, 3071, 3073, 3327, 3328, 3584, 4095}) {
            shape(shape, false);
        }
        shape(3072, true);
        for (int shape : new int[] {4096, 4097, 4096 + 1024, 4096 + 3072, 8192, 65536, 1 << 29,
            LARGEST_NUMBER, -1, -1024, -2048, -3072, LEAST_NUMBER, LEAST_NUMBER + 1024}) {
            shape(shape, false);
        }
    }

    private static void eachShape() {
        for (int shape = -5; shape < 9000; shape++) {
            int f = shape & 1023;
            boolean indexed = (shape & 1024) != 0;
            boolean bytes = (shape & 2048) != 0;
            boolean good = shape >= 0 && shape < 4096 && f <= 255 && (!bytes || f == 0 && indexed);
            Model model = Model.small();
            model.thing(10).parts[2] = Model.number(shape);
            Counted reader = new Counted();
            DUE.is("S9 of shape " + shape + ": read()", reader.read(model),
                good ? NONE : Model.specialPlace(9));
        }
    }

    /** The method of the small image's contexts: its context is refused if it is none. */
    private static void isMethod(String what, int kind, boolean good, int... parts) {
        Model model = Model.small();
        model.thing(Model.METHOD).kind = kind;
        model.thing(Model.METHOD).parts = parts;
        if (kind == Model.BYTES) {
            model.thing(Model.METHOD).classValue = Model.object(Model.BYTES_CLASS);
        }
        DUE.isWellIf(good, what, model, model.place(Model.CONTEXT));
        Model block = model.copy();
        block.thing(Model.CONTEXT).classValue = Model.object(Model.PLAIN_CLASS);
        Model.Thing home = model.thing(Model.CONTEXT).copy();
        block.things.add(home);
        block.thing(Model.PROCESS).parts[1] = Model.object(block.things.size());
        block.thing(Model.BLOCK).parts[0] = 0;
        block.thing(Model.BLOCK).parts[5] = Model.object(block.things.size());
        DUE.isWellIf(good, what + ", of a block's home", block, block.place(Model.BLOCK));
    }

    private static int head() {
        return Model.methodHead(Model.ARGUMENTS, Model.TEMPORARIES, Model.DEPTH, 0);
    }

    /** "A METHOD is an object of two fields or more" */
    private static void methodOfTwoFieldsOrMore() {
        int code = Model.object(Model.CODE);
        isMethod("method of no fields", Model.FIELDS, false);
        isMethod("method of one field", Model.FIELDS, false, head());
        isMethod("method of two fields", Model.FIELDS, true, head(), code);
        isMethod("method of three fields", Model.FIELDS, true, head(), code, 0);
        isMethod("method of more fields", Model.FIELDS, true, head(), code, 5, code, -1);
        isMethod("method of bytes", Model.BYTES, false, 0, 0, 16, 101, 0, 0, 0, 52);
        isMethod("method of no bytes", Model.BYTES, false);
    }

    /** "field 0 a number of 0 or more" */
    private static void methodHeadIsANumberOfZeroOrMore() {
        int code = Model.object(Model.CODE);
        isMethod("head nil", Model.FIELDS, false, 0, code);
        isMethod("head an object", Model.FIELDS, false, code, code);
        isMethod("head the least number", Model.FIELDS, false, Integer.MIN_VALUE + 1, code);
        isMethod("head the right one below 0", Model.FIELDS, false, head() | 1 << 31, code);
        DUE.isWell("head 0", sized(0, 0, 0, 0));
        DUE.is("head 0 is 1 as a value", sized(0, 0, 0, 0).thing(Model.METHOD).parts[0], 1);
        Model below = sized(0, 0, 0, 0);
        below.thing(Model.METHOD).parts[0] = Model.number(-1);
        DUE.reads("head -1", below, below.place(Model.CONTEXT));
        Model ofItsBits = sized(15, 31, 63, 0);
        ofItsBits.thing(Model.METHOD).parts[0] = Model.number(-1);
        DUE.reads("head -1, contexts of its bits", ofItsBits, ofItsBits.place(Model.CONTEXT));
    }

    /** The small image with another method, and contexts for it that are full. */
    static Model sized(int a, int t, int d, int p) {
        Model model = Model.small();
        int code = Model.object(Model.CODE);
        model.thing(Model.METHOD).parts = new int[] {Model.methodHead(a, t, d, p), code};
        int[] parts = Arrays.copyOf(model.thing(Model.CONTEXT).parts, 5 + t + d);
        Arrays.fill(parts, 5, parts.length, code);
        parts[2] = Model.number(t + d);
        model.thing(Model.CONTEXT).parts = parts;
        int[] block = Arrays.copyOf(model.thing(Model.BLOCK).parts, 6 + d);
        Arrays.fill(block, 6, block.length, code);
        block[2] = Model.number(d);
        model.thing(Model.BLOCK).parts = block;
        return model;
    }

    /** "with A 0 .. 15, T 0 .. 31 and at least A" */
    private static void argumentsAndTemporaries() {
        for (int t = 0; t < 32; t++) {
            for (int a = 0; a < 16; a++) {
                Model model = sized(a, t, 1, 1);
                DUE.isWellIf(a <= t, "A " + a + " T " + t, model, model.place(Model.CONTEXT));
            }
        }
    }

    /** "D 0 .. 63" */
    private static void depthOfAMethod() {
        for (int d : new int[] {0, 1, 31, 32, 62, 63}) {
            DUE.isWell("D " + d, sized(1, 2, d, 3));
        }
        Model carried = sized(1, 2, 63, 3);
        carried.thing(Model.METHOD).parts[0] = Model.methodHead(1, 2, 64, 3);
        DUE.reads("D 64 is D 0 and one more of P", carried, carried.place(Model.CONTEXT));
        Model swapped = sized(0, 4, 3, 0);
        swapped.thing(Model.METHOD).parts[0] = Model.methodHead(0, 3, 4, 0);
        DUE.reads("T and D for one another fit only the method context", swapped,
            swapped.place(Model.BLOCK));
    }

    /** "P 0 .. 255" */
    private static void lastPartOfAMethodHead() {
        for (int p : new int[] {0, 1, 127, 128, 254, 255}) {
            DUE.isWell("the least with P " + p, sized(0, 0, 0, p));
            DUE.isWell("the largest with P " + p, sized(15, 31, 63, p));
        }
        for (int p : new int[] {-256, -1, 256, 257, 511, 512, 16384, 32767}) {
            Model least = sized(0, 0, 0, p);
            DUE.reads("the least with P " + p, least, least.place(Model.CONTEXT));
            Model largest = sized(15, 31, 63, p);
            DUE.reads("the largest with P " + p, largest, largest.place(Model.CONTEXT));
        }
    }

    /** "field 1 an object of bytes" */
    private static void methodHasAnObjectOfBytes() {
        isMethod("code nil", Model.FIELDS, false, head(), 0);
        isMethod("code a number", Model.FIELDS, false, head(), 5);
        isMethod("code a number of an object's bits", Model.FIELDS, false, head(), 53);
        isMethod("code of no fields", Model.FIELDS, false, head(), Model.object(1));
        isMethod("code of fields", Model.FIELDS, false, head(), Model.object(Model.LISTS));
        isMethod("code the method itself", Model.FIELDS, false, head(), Model.object(Model.METHOD));
        for (int size : new int[] {0, 1, 300}) {
            Model model = Model.small();
            model.thing(Model.CODE).parts = new int[size];
            DUE.isWell("code of " + size + " bytes", model);
        }
    }
}
