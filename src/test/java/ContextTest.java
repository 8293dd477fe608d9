import java.util.Arrays;

/** 'Terms': method contexts and block contexts. */
public final class ContextTest {

    private static final Due DUE = new Due("ContextTest");
    private static final int CONTEXT = Model.CONTEXT;
    private static final int BLOCK = Model.BLOCK;
    private static final int[] SOME_T = {0, 1, 15, 16, 31};
    private static final int[] SOME_D = {0, 1, 31, 32, 63};

    public static void main(String[] args) {
        senderIsAContextOrNil(CONTEXT);
        counterIsNilOrZeroOrMore(CONTEXT);
        methodContextHasSoManyFields();
        methodContextHeight();
        methodContextHasAMethod();
        methodContextHasAnyReceiver();
        methodContextIsNilAboveItsHeight();
        senderIsAContextOrNil(BLOCK);
        counterIsNilOrZeroOrMore(BLOCK);
        blockContextHasSoManyFields();
        blockContextHeight();
        blockContextArguments();
        blockContextStart();
        blockContextHomeIsOfS7();
        blockContextHomeOfFiveFieldsOrMore();
        blockContextHomeHasAMethod();
        blockContextIsNilAboveItsHeight();
        contextsAreOfFields();
        DUE.end();
    }

    private static void with(String what, int k, int i, int value, boolean good) {
        Model model = Model.small();
        model.thing(k).parts[i] = value;
        DUE.isWellIf(good, name(k) + ", " + what, model, model.place(k));
    }

    private static String name(int k) {
        return k == CONTEXT ? "method context" : "block context";
    }

    private static void ofSize(Model full, int k, int size, boolean good) {
        int[] parts = full.thing(k).parts;
        Model model = full.copy();
        model.thing(k).parts = Arrays.copyOf(parts, size);
        String what = name(k) + " of " + size + " fields, due are " + parts.length;
        DUE.isWellIf(good, what, model, model.place(k));
    }

    /** "0 a context or nil", "0 and 1 as for a method context" */
    private static void senderIsAContextOrNil(int k) {
        with("sender nil", k, 0, 0, true);
        with("sender itself", k, 0, Model.object(k), true);
        with("sender a method context", k, 0, Model.object(CONTEXT), true);
        with("sender a block context", k, 0, Model.object(BLOCK), true);
        with("sender a number", k, 0, Model.number(0), false);
        with("sender a number of a context's bits", k, 0, Model.object(CONTEXT) + 1, false);
        with("sender of no class of contexts", k, 0, Model.object(Model.PROCESS), false);
        with("sender S7", k, 0, Model.object(Model.METHOD_CONTEXT_CLASS), false);
        with("sender S8", k, 0, Model.object(Model.BLOCK_CONTEXT_CLASS), false);
        with("sender of bytes", k, 0, Model.object(Model.CODE), false);
    }

    /** "1 nil (it is DEAD) or a number of 0 or more", "0 and 1 as for a method context" */
    private static void counterIsNilOrZeroOrMore(int k) {
        with("counter -1", k, 1, Model.number(-1), false);
        with("counter 0", k, 1, Model.number(0), true);
        with("counter 1", k, 1, Model.number(1), true);
        with("counter the largest", k, 1, Integer.MAX_VALUE, true);
        with("counter the least", k, 1, Integer.MIN_VALUE + 1, false);
        with("counter an object", k, 1, Model.object(1), false);
        with("counter a context", k, 1, Model.object(CONTEXT), false);
        Model dead = Model.small();
        dead.thing(Model.PROCESS).parts[1] = Model.object(dead.add(0, Model.FIELDS));
        Model.Thing living = dead.thing(dead.things.size());
        living.classValue = dead.thing(CONTEXT).classValue;
        living.parts = dead.thing(CONTEXT).parts.clone();
        dead.thing(k).parts[1] = 0;
        DUE.isWell(name(k) + ", dead, another one is scheduled", dead);
    }

    /** "has class S7 and, with T and D of its method, 5 + T + D fields" */
    private static void methodContextHasSoManyFields() {
        for (int t : SOME_T) {
            for (int d : SOME_D) {
                Model full = TermsTest.sized(Math.min(t, 15), t, d, 7);
                int size = 5 + t + d;
                ofSize(full, CONTEXT, size, true);
                Model flat = withLooseClasses(full.copy());
                int[] parts = flat.thing(CONTEXT).parts;
                parts[2] = Model.number(t);
                Arrays.fill(parts, 5 + t, size, 0);
                for (int more = -1; more < 3; more++) {
                    ofSize(flat, CONTEXT, size + more, more == 0);
                }
            }
        }
        for (int size = 0; size < 5; size++) {
            ofSize(withLooseClasses(TermsTest.sized(0, 0, 0, 0)), CONTEXT, size, false);
        }
    }

    /** The classes of contexts, and so the contexts, may have any number of fields. */
    private static Model withLooseClasses(Model model) {
        model.thing(Model.METHOD_CONTEXT_CLASS).parts[2] = Model.number(1024);
        model.thing(Model.BLOCK_CONTEXT_CLASS).parts[2] = Model.number(1024);
        return model;
    }

    /** "2 its HEIGHT, a number T .. T + D" */
    private static void methodContextHeight() {
        for (int t : SOME_T) {
            for (int d : SOME_D) {
                for (int height : new int[] {-1, 0, t - 1, t, t + 1, t + d - 1, t + d, t + d + 1}) {
                    Model model = TermsTest.sized(0, t, d, 0);
                    int[] parts = model.thing(CONTEXT).parts;
                    parts[2] = Model.number(height);
                    Arrays.fill(parts, 5, parts.length, 0);
                    DUE.isWellIf(height >= t && height <= t + d,
                        "T " + t + " D " + d + " height " + height, model, model.place(CONTEXT));
                }
            }
        }
        heightIsANumber(CONTEXT);
    }

    private static void heightIsANumber(int k) {
        with("height nil", k, 2, 0, false);
        with("height an object", k, 2, Model.object(3), false);
        with("height the least", k, 2, Integer.MIN_VALUE + 1, false);
        with("height the largest", k, 2, Integer.MAX_VALUE, false);
        Model model = TermsTest.sized(0, 0, 0, 0);
        model.thing(k).parts[2] = 0;
        DUE.reads(name(k) + ", height nil where 0 is due", model, model.place(k));
    }

    /** "3 a method" */
    private static void methodContextHasAMethod() {
        with("method nil", CONTEXT, 3, 0, false);
        with("method a number", CONTEXT, 3, 1, false);
        with("method a number of its bits", CONTEXT, 3, Model.object(Model.METHOD) + 1, false);
        with("method no method", CONTEXT, 3, Model.object(Model.PROCESS), false);
        with("method of bytes", CONTEXT, 3, Model.object(Model.CODE), false);
        with("method itself", CONTEXT, 3, Model.object(CONTEXT), false);
        with("method as it is", CONTEXT, 3, Model.object(Model.METHOD), true);
        Model model = Model.small();
        int code = Model.object(Model.CODE);
        int other = model.add(Model.PLAIN_CLASS, Model.FIELDS, Model.methodHead(0, 3, 4, 0), code);
        model.thing(CONTEXT).parts[3] = Model.object(other);
        DUE.isWell("another method of the same T and D", model);
        model.thing(other).parts[0] = Model.methodHead(0, 3, 5, 0);
        DUE.reads("another method of another D", model, model.place(CONTEXT));
        model.thing(other).parts[0] = Model.methodHead(0, 2, 4, 0);
        DUE.reads("another method of another T", model, model.place(CONTEXT));
    }

    private static void methodContextHasAnyReceiver() {
        for (int value : new int[] {0, 1, -1, Model.object(CONTEXT), Model.object(Model.CODE)}) {
            with("receiver " + value, CONTEXT, 4, value, true);
        }
    }

    /** A context of this height with all set below it and nothing above it, then with one more. */
    private static void isNilAbove(Model full, int k, int height, int firstPart) {
        int[] parts = full.thing(k).parts;
        String what = name(k) + " of " + parts.length + ", height " + height;
        Model model = full.copy();
        int[] cut = model.thing(k).parts;
        cut[2] = Model.number(height);
        Arrays.fill(cut, firstPart + height, cut.length, 0);
        DUE.isWell(what + ", nil from there on", model);
        for (int i = firstPart + height; i < cut.length; i += Math.max(1, cut.length - i - 1)) {
            for (int value : new int[] {1, Model.object(1)}) {
                cut[i] = value;
                DUE.reads(what + ", field " + i + " is " + value, model, model.place(k));
            }
            cut[i] = 0;
        }
    }

    /** "from field 5 + height on all are nil" */
    private static void methodContextIsNilAboveItsHeight() {
        for (int t : SOME_T) {
            for (int d : SOME_D) {
                for (int height = t; height <= t + d; height += Math.max(1, d / 2)) {
                    isNilAbove(TermsTest.sized(0, t, d, 0), CONTEXT, height, 5);
                }
            }
        }
        with("the last below the height nil", CONTEXT, 8, 0, true);
    }

    /** "A BLOCK CONTEXT has class S8 and 6 + D fields" */
    private static void blockContextHasSoManyFields() {
        for (int t : new int[] {0, 31}) {
            for (int d : SOME_D) {
                Model full = TermsTest.sized(0, t, d, 255);
                Model flat = withLooseClasses(full.copy());
                flat.thing(BLOCK).parts[2] = Model.number(0);
                Arrays.fill(flat.thing(BLOCK).parts, 6, 6 + d, 0);
                for (int more = -1; more < 3; more++) {
                    ofSize(flat, BLOCK, 6 + d + more, more == 0);
                }
                ofSize(full, BLOCK, 6 + d, true);
            }
        }
        for (int size = 0; size < 6; size++) {
            ofSize(withLooseClasses(TermsTest.sized(0, 0, 0, 0)), BLOCK, size, false);
        }
    }

    /** "2 its height, a number 0 .. D" */
    private static void blockContextHeight() {
        for (int d : SOME_D) {
            for (int height : new int[] {-1, 0, 1, d - 1, d, d + 1}) {
                Model model = TermsTest.sized(0, 5, d, 0);
                int[] parts = model.thing(BLOCK).parts;
                parts[2] = Model.number(height);
                Arrays.fill(parts, 6, parts.length, 0);
                DUE.isWellIf(height >= 0 && height <= d, "D " + d + " height of a block " + height,
                    model, model.place(BLOCK));
            }
        }
        heightIsANumber(BLOCK);
    }

    /** "3 a number 0 .. 15" */
    private static void blockContextArguments() {
        for (int n = -2; n < 18; n++) {
            with("arguments " + n, BLOCK, 3, Model.number(n), n >= 0 && n <= 15);
        }
        with("arguments nil", BLOCK, 3, 0, false);
        with("arguments an object", BLOCK, 3, Model.object(3), false);
        with("arguments the largest", BLOCK, 3, Integer.MAX_VALUE, false);
        with("arguments the least", BLOCK, 3, Integer.MIN_VALUE + 1, false);
    }

    /** "4 nil or a number of 0 or more" */
    private static void blockContextStart() {
        with("start nil", BLOCK, 4, 0, true);
        with("start -1", BLOCK, 4, Model.number(-1), false);
        with("start 0", BLOCK, 4, Model.number(0), true);
        with("start 1", BLOCK, 4, Model.number(1), true);
        with("start the largest", BLOCK, 4, Integer.MAX_VALUE, true);
        with("start the least", BLOCK, 4, Integer.MIN_VALUE + 1, false);
        with("start an object", BLOCK, 4, Model.object(3), false);
    }

    /** A home behind the block, so that a block that fits is passed by when the home is ill. */
    private static Model withHome(int classObject, int... parts) {
        Model model = withLooseClasses(Model.small());
        int home = model.add(classObject, Model.FIELDS, parts);
        model.thing(BLOCK).parts[5] = Model.object(home);
        return model;
    }

    /** "5 an object of class S7" */
    private static void blockContextHomeIsOfS7() {
        with("home nil", BLOCK, 5, 0, false);
        with("home a number", BLOCK, 5, Model.number(3), false);
        with("home a number of its bits", BLOCK, 5, Model.object(CONTEXT) + 1, false);
        with("home the block itself", BLOCK, 5, Model.object(BLOCK), false);
        with("home a plain object", BLOCK, 5, Model.object(Model.PROCESS), false);
        with("home of bytes", BLOCK, 5, Model.object(Model.CODE), false);
        for (int special = 6; special <= 9; special++) {
            int[] parts = Model.small().thing(CONTEXT).parts;
            Model model = withHome(special + 1, parts);
            model.thing(7).parts[2] = Model.number(1024);
            model.thing(10).parts[2] = Model.number(1024);
            DUE.isWellIf(special == 7, "home of S" + special, model, model.place(BLOCK));
        }
    }

    /** "of five fields or more" */
    private static void blockContextHomeOfFiveFieldsOrMore() {
        int method = Model.object(Model.METHOD);
        for (int size = 0; size < 8; size++) {
            int[] parts = Arrays.copyOf(new int[] {0, 0, 0, method}, size);
            Model model = withHome(Model.METHOD_CONTEXT_CLASS, parts);
            int place = model.place(size < 5 ? BLOCK : model.things.size());
            DUE.reads("home of " + size + ", ill itself", model, place);
        }
        Model flat = TermsTest.sized(0, 0, 0, 0);
        DUE.is("a flat home's fields", flat.thing(CONTEXT).parts.length, 5);
        DUE.isWell("home of five, well itself", flat);
    }

    /** "whose field 3 is a method, of which D is" */
    private static void blockContextHomeHasAMethod() {
        int home = Model.METHOD_CONTEXT_CLASS;
        for (int value : new int[] {0, 1, Model.object(1), Model.object(Model.CODE),
            Model.object(CONTEXT), Model.object(Model.METHOD) + 1}) {
            Model model = withHome(home, 0, 0, 0, value, 0);
            DUE.reads("home with " + value + " for a method", model, model.place(BLOCK));
        }
        int code = Model.object(Model.CODE);
        for (int d : new int[] {3, 4, 5}) {
            Model model = withHome(home, 0, 0, 0, 0, 0);
            int head = Model.methodHead(0, 9, d, 1);
            int method = model.add(Model.PLAIN_CLASS, Model.FIELDS, head, code);
            model.thing(BLOCK + 1).parts[3] = Model.object(method);
            int place = model.place(d == 4 ? BLOCK + 1 : BLOCK);
            DUE.reads("home whose method has D " + d, model, place);
        }
    }

    /** "from field 6 + height on all are nil" */
    private static void blockContextIsNilAboveItsHeight() {
        for (int d : SOME_D) {
            for (int height = 0; height <= d; height += Math.max(1, d / 2)) {
                isNilAbove(TermsTest.sized(0, 3, d, 0), BLOCK, height, 6);
            }
        }
        with("the last below the height nil", BLOCK, 6, 0, true);
    }

    /** Classes of contexts may be classes of bytes, but no context is of bytes. */
    private static void contextsAreOfFields() {
        for (int k : new int[] {CONTEXT, BLOCK}) {
            for (int size : new int[] {0, 12, 48}) {
                Model model = Model.small();
                model.thing(model.thing(k).classValue / 2).parts[2] = Model.number(3072);
                model.thing(k).kind = Model.BYTES;
                model.thing(k).parts = new int[size];
                DUE.reads(name(k) + " of " + size + " bytes", model, model.place(k));
            }
        }
    }
}
