import java.util.Arrays;

/** The rules (6) and (7): objects and their classes, and what the scheduler S14 has. */
public final class ObjectsTest {

    private static final Due DUE = new Due("ObjectsTest");
    private static final int PLACE_OF_S14 = 64;

    public static void main(String[] args) {
        rule6HasAClass();
        rule6BytesIfBIsOne();
        rule6FieldsOfAClass();
        rule6FieldsOrMoreOfAClass();
        rule6AnyClassWillDo();
        rule6ObjectsInOrder();
        rule6ContextsAsTold();
        rule7ListsOfEightFieldsOrMore();
        rule7EightListsOfTwoFieldsOrMore();
        rule7ProcessOfFourFieldsOrMore();
        rule7NoneOfTheseAContext();
        rule7ContextThatIsNotDead();
        rule7PriorityFromOneToEight();
        rule7OneForAnother();
        rule7AtTheFirstByteOfS14();
        DUE.end();
    }

    /** An object behind the others, and behind it one that is ill: told only if this one fits. */
    private static void added(String what, int classValue, int kind, int size, boolean good) {
        Model model = Model.small();
        int k = model.add(0, kind, new int[size]);
        model.thing(k).classValue = classValue;
        DUE.isWellIf(good, what, model, model.place(k));
        model.add(Model.EMPTY_CLASS, Model.FIELDS, 0);
        DUE.reads(what + ", an ill one behind", model, model.place(good ? k + 1 : k));
    }

    /** "each has a class (an object that is a class)" */
    private static void rule6HasAClass() {
        added("class nil", 0, Model.FIELDS, 0, false);
        added("class 0", Model.number(0), Model.FIELDS, 0, false);
        added("class -1", Model.number(-1), Model.FIELDS, 0, false);
        added("class a number of its bits", Model.object(7) + 1, Model.FIELDS, 0, false);
        added("class an object", Model.object(Model.EMPTY_CLASS), Model.FIELDS, 0, true);
        added("class of no fields", Model.object(1), Model.FIELDS, 0, false);
        added("class of two fields", Model.object(Model.SCHEDULER), Model.FIELDS, 0, false);
        added("class without a shape", Model.object(Model.LISTS), Model.FIELDS, 0, false);
        added("class of bytes", Model.object(Model.CODE), Model.FIELDS, 0, false);
        added("class itself, no class", Model.object(30), Model.FIELDS, 3, false);
    }

    /** "is of bytes if B is 1, else of fields" */
    private static void rule6BytesIfBIsOne() {
        int bytes = Model.object(Model.BYTES_CLASS);
        for (int size = 0; size < 6; size++) {
            added(size + " bytes of a class of bytes", bytes, Model.BYTES, size, true);
            added(size + " fields of a class of bytes", bytes, Model.FIELDS, size, false);
        }
        for (int k : new int[] {Model.PLAIN_CLASS, Model.EMPTY_CLASS, Model.PAIR_CLASS, 11, 12}) {
            for (int size : new int[] {0, 1, 2, 3, 254, 255, 256}) {
                added(size + " bytes of S" + (k - 1), Model.object(k), Model.BYTES, size, false);
            }
        }
    }

    /** "and of fields has F" */
    private static void rule6FieldsOfAClass() {
        int[][] classesAndF = {{Model.EMPTY_CLASS, 0}, {Model.PAIR_CLASS, 2}, {13, 3}, {11, 255}};
        for (int[] pair : classesAndF) {
            for (int size : around(pair[1])) {
                added(size + " fields, F " + pair[1] + " I 0", Model.object(pair[0]), Model.FIELDS,
                    size, size == pair[1]);
            }
        }
    }

    /** "or, if I is 1, F or more" */
    private static void rule6FieldsOrMoreOfAClass() {
        int[][] classesAndF = {{Model.PLAIN_CLASS, 0}, {Model.CLASS_CLASS, 3}, {12, 255}};
        for (int[] pair : classesAndF) {
            for (int size : around(pair[1])) {
                added(size + " fields, F " + pair[1] + " I 1", Model.object(pair[0]), Model.FIELDS,
                    size, size >= pair[1]);
            }
        }
    }

    private static int[] around(int f) {
        int[] sizes = {0, f - 2, f - 1, f, f + 1, f + 2, f + 256, f + 1024};
        return Arrays.stream(sizes).filter(size -> size >= 0).toArray();
    }

    private static void rule6AnyClassWillDo() {
        Model model = Model.small();
        int own = model.add(Model.CLASS_CLASS, Model.FIELDS, 0, 0, Model.number(1));
        int used = model.add(own, Model.FIELDS, 0);
        DUE.isWell("a class that is not special", model);
        model.thing(own).parts[2] = Model.number(2);
        DUE.reads("of one field too few", model, model.place(used));
        model.thing(own).parts[2] = Model.number(0);
        DUE.reads("of one field too many", model, model.place(used));
        model.thing(own).parts[2] = Model.number(256);
        DUE.reads("of an unfit shape", model, model.place(used));
        model.thing(own).parts[2] = Model.number(2);
        model.thing(own).classValue = Model.object(own);
        DUE.reads("a class of itself with a field too many", model, model.place(own));
        model.thing(own).parts[2] = Model.number(3);
        model.thing(used).parts = new int[3];
        DUE.isWell("a class of itself", model);
        model.thing(used).parts = new int[256];
        model.thing(own).parts[2] = Model.number(1024 + 255);
        DUE.reads("a class of itself with fields too few", model, model.place(own));
    }

    /** "of objects in order", "at the first byte of the object's class" */
    private static void rule6ObjectsInOrder() {
        Model model = Model.small();
        for (int k = Model.SMALL_COUNT; k >= 1; k--) {
            model.thing(k).classValue = Model.number(3);
            DUE.reads("objects " + k + " and on without a class", model, model.place(k));
        }
        Model context = Model.small();
        context.thing(Model.BLOCK).classValue = 0;
        DUE.reads("no class behind a context", context, context.place(Model.BLOCK));
        context.thing(Model.CONTEXT).parts[4 + 7] = 1;
        DUE.reads("an ill context before one without a class", context, context.place(28));
        context.thing(Model.METHOD).classValue = 0;
        DUE.reads("one without a class before an ill context", context, context.place(27));
    }

    /** "if it is a context it is a method context or a block context as told" */
    private static void rule6ContextsAsTold() {
        for (int k : new int[] {Model.CONTEXT, Model.BLOCK}) {
            Model model = Model.small();
            model.thing(k).parts[2] = Model.number(-1);
            DUE.reads("context " + k + " without a height", model, model.place(k));
            Model swapped = Model.small();
            int other = k == Model.CONTEXT ? Model.BLOCK_CONTEXT_CLASS : Model.METHOD_CONTEXT_CLASS;
            swapped.thing(k).classValue = Model.object(other);
            DUE.reads("context " + k + " of the other class", swapped, swapped.place(k));
        }
        Model ownClass = Model.small();
        ownClass.thing(Model.METHOD_CONTEXT_CLASS).parts[2] = Model.number(12);
        DUE.isWell("a method context of just as many fields", ownClass);
        ownClass.thing(Model.METHOD_CONTEXT_CLASS).parts[2] = Model.number(13);
        DUE.reads("a method context as told, of an unfit class", ownClass, ownClass.place(28));
    }

    private static void scheduled(String what, int k, int i, int value, boolean good) {
        Model model = Model.small();
        model.thing(k).parts[i] = value;
        DUE.isWellIf(good, what, model, PLACE_OF_S14);
    }

    private static void areNoObjects(String what, int k, int i, int right) {
        scheduled(what + " nil", k, i, 0, false);
        scheduled(what + " a number", k, i, Model.number(1), false);
        scheduled(what + " a number of its bits", k, i, Model.object(right) + 1, false);
        scheduled(what + " of bytes", k, i, Model.object(Model.CODE), false);
        scheduled(what + " as it is", k, i, Model.object(right), true);
    }

    /** Field i of object k becomes another object of so many fields, the first of another one's. */
    private static Model replaced(int k, int i, int size) {
        Model model = Model.small();
        int[] parts = model.thing(model.thing(k).parts[i] / 2).parts;
        int other = model.add(Model.PLAIN_CLASS, Model.FIELDS, Arrays.copyOf(parts, size));
        model.thing(k).parts[i] = Model.object(other);
        return model;
    }

    /** "field 0 of S14 is an object of eight fields or more" */
    private static void rule7ListsOfEightFieldsOrMore() {
        areNoObjects("lists", Model.SCHEDULER, 0, Model.LISTS);
        for (int size = 0; size < 11; size++) {
            Model model = replaced(Model.SCHEDULER, 0, size);
            DUE.isWellIf(size >= 8, "lists of " + size, model, PLACE_OF_S14);
        }
    }

    /** "the first eight of which are objects of two fields or more" */
    private static void rule7EightListsOfTwoFieldsOrMore() {
        for (int i = 0; i < 8; i++) {
            areNoObjects("list " + i, Model.LISTS, i, Model.FIRST_LIST + i);
            for (int size = 0; size < 5; size++) {
                Model model = replaced(Model.LISTS, i, size);
                DUE.isWellIf(size >= 2, "list " + i + " of " + size, model, PLACE_OF_S14);
            }
        }
        for (int value : new int[] {0, 1, Model.object(1), Model.object(Model.CODE)}) {
            Model model = replaced(Model.SCHEDULER, 0, 10);
            model.thing(30).parts[8] = value;
            model.thing(30).parts[9] = value;
            DUE.isWell("fields 8 and 9 of the lists are " + value, model);
        }
    }

    /** "field 1 is an object of four fields or more" */
    private static void rule7ProcessOfFourFieldsOrMore() {
        areNoObjects("process", Model.SCHEDULER, 1, Model.PROCESS);
        for (int size = 0; size < 7; size++) {
            Model model = replaced(Model.SCHEDULER, 1, size);
            DUE.isWellIf(size >= 4, "process of " + size, model, PLACE_OF_S14);
        }
        for (int value : new int[] {0, 1, -1, Model.object(1), Model.object(Model.CONTEXT)}) {
            scheduled("field 0 of the process is " + value, Model.PROCESS, 0, value, true);
            scheduled("field 3 of the process is " + value, Model.PROCESS, 3, value, true);
        }
    }

    /** "none of these a context": of all that (7) names before. */
    private static void rule7NoneOfTheseAContext() {
        int context = Model.object(Model.CONTEXT);
        int block = Model.object(Model.BLOCK);
        for (int i = 0; i < 8; i++) {
            scheduled("list " + i + " a method context", Model.LISTS, i, context, false);
            scheduled("list " + i + " a block context", Model.LISTS, i, block, false);
        }
        for (int value : new int[] {context, block}) {
            scheduled("lists the context " + value, Model.SCHEDULER, 0, value, false);
            scheduled("process the context " + value, Model.SCHEDULER, 1, value, false);
        }
    }

    /** "field 1 of this one is a context that is not dead" */
    private static void rule7ContextThatIsNotDead() {
        scheduled("context nil", Model.PROCESS, 1, 0, false);
        scheduled("context a number", Model.PROCESS, 1, 1, false);
        scheduled("context of its bits", Model.PROCESS, 1, Model.object(Model.CONTEXT) + 1, false);
        scheduled("context a plain object", Model.PROCESS, 1, Model.object(Model.PROCESS), false);
        scheduled("context of bytes", Model.PROCESS, 1, Model.object(Model.CODE), false);
        scheduled("context a dead block", Model.PROCESS, 1, Model.object(Model.BLOCK), false);
        scheduled("a dead method context", Model.CONTEXT, 1, 0, false);
        scheduled("a method context at 0", Model.CONTEXT, 1, Model.number(0), true);
        scheduled("a method context at 1", Model.CONTEXT, 1, Model.number(1), true);
        Model model = Model.small();
        model.thing(Model.PROCESS).parts[1] = Model.object(Model.BLOCK);
        model.thing(Model.BLOCK).parts[1] = Model.number(0);
        DUE.isWell("a living block", model);
        model.thing(Model.CONTEXT).parts[1] = 0;
        DUE.isWell("a living block of a dead home", model);
        model.thing(Model.BLOCK).parts[1] = 0;
        DUE.reads("a dead block", model, PLACE_OF_S14);
    }

    /** "field 2 a number 1 .. 8" */
    private static void rule7PriorityFromOneToEight() {
        for (int n = -2; n < 12; n++) {
            scheduled("priority " + n, Model.PROCESS, 2, Model.number(n), n >= 1 && n <= 8);
        }
        scheduled("priority nil", Model.PROCESS, 2, 0, false);
        scheduled("priority object 1", Model.PROCESS, 2, Model.object(1), false);
        scheduled("priority object 8", Model.PROCESS, 2, Model.object(8), false);
        scheduled("priority the largest", Model.PROCESS, 2, Integer.MAX_VALUE, false);
        scheduled("priority the least", Model.PROCESS, 2, Integer.MIN_VALUE + 1, false);
        scheduled("priority 257", Model.PROCESS, 2, Model.number(257), false);
    }

    /** One object may stand in several of these places. */
    private static void rule7OneForAnother() {
        Model model = Model.small();
        int[] parts = new int[8];
        Arrays.fill(parts, Model.object(Model.SCHEDULER));
        model.thing(Model.LISTS).parts = parts;
        DUE.isWell("each list is S14", model);
        Arrays.fill(parts, Model.object(Model.LISTS));
        DUE.isWell("each list is the lists", model);
        Arrays.fill(parts, Model.object(Model.PROCESS));
        DUE.isWell("each list is the process", model);
        Arrays.fill(parts, Model.object(3));
        DUE.isWell("each list is a class", model);
    }

    /** "at the first byte of S14" */
    private static void rule7AtTheFirstByteOfS14() {
        Model model = Model.small();
        int other = model.add(Model.PLAIN_CLASS, Model.FIELDS, 0, Model.object(Model.PROCESS), 1);
        model.specials[14] = Model.object(other);
        DUE.reads("another S14 without lists", model, PLACE_OF_S14);
        model.thing(other).parts[0] = Model.object(Model.LISTS);
        DUE.isWell("another S14", model);
        model.thing(other).parts[1] = 0;
        DUE.reads("another S14 without a process", model, PLACE_OF_S14);
    }
}
