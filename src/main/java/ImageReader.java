import java.util.Arrays;

/**
 * Reads an image of objects that point to one another, refuses it at the first place where it is
 * ill formed, writes it anew with nothing but what can be reached, and compares two images object
 * by object, whatever their numbers.
 */
public final class ImageReader {

    public static final int NONE = -1;

    private static final int MOST_BYTES = 65536;
    private static final int BYTES_OF_FEED = 20;
    private static final int MOST_OBJECTS = 8191;

    private static final int NIL = 0;
    private static final int OF_FIELDS = 0;
    private static final int OF_BYTES = 1;
    private static final int METHOD_CONTEXT = 2;
    private static final int BLOCK_CONTEXT = 3;

    private static final int SPECIALS = 50;
    private static final int CLASS_OF_METHOD_CONTEXTS = 7;
    private static final int CLASS_OF_BLOCK_CONTEXTS = 8;
    private static final int SCHEDULER = 14;

    private static final int WORDS_PLACE = 4;
    private static final int COUNT_PLACE = 5;
    private static final int N_PLACE = 6;
    private static final int SPECIALS_PLACE = 8;
    private static final int OBJECTS_PLACE = 208;
    private static final int BODY_OFFSET = 7;

    /** What each of the first six bytes of an image may be, at least and at most. */
    private static final int[] HEAD_LOWEST = {77, 77, 1, 0, 12, 10};
    private static final int[] HEAD_HIGHEST = {77, 77, 1, 0, 18, 14};

    private final Bytes incoming;
    private final Image first;
    private final Image second;
    private final Image third;
    private final Walk walk;
    private final Pairing pairing;

    /** Without objects as long as no image has been read. */
    private Image hand;

    /** Without objects as long as no image has been remembered. */
    private Image kept;

    public ImageReader() {
        incoming = new Bytes();
        first = new Image();
        second = new Image();
        third = new Image();
        walk = new Walk();
        pairing = new Pairing();
        hand = first;
        kept = first;
    }

    public void feed(int a, int b, int c, int d, int e) throws IllegalStateException {
        if (incoming.length + BYTES_OF_FEED > MOST_BYTES) {
            throw new IllegalStateException("there would be more than 65536 bytes");
        }
        incoming.addWord(a);
        incoming.addWord(b);
        incoming.addWord(c);
        incoming.addWord(d);
        incoming.addWord(e);
    }

    public int end(int n) throws IllegalArgumentException {
        if (n < 0 || n > incoming.length) {
            throw new IllegalArgumentException("there are not so many bytes");
        }
        int before = incoming.length;
        incoming.length = n;
        return before;
    }

    public int change(int i, int b) {
        int before = incoming.at(i);
        if (before == NONE || b < 0 || b > 255) {
            return NONE;
        }
        incoming.row[i] = (byte) b;
        return before;
    }

    public int read() {
        Image next = spareImage();
        int place = placeOfRefusal(next);
        incoming.length = 0;
        if (place == NONE) {
            hand = next;
        }
        return place;
    }

    public int objects() {
        return hand.count;
    }

    public int words() {
        return hand.words;
    }

    public int special(int k) {
        return hand.specialAt(k);
    }

    public int kind(int k) {
        if (!hand.holds(k)) {
            return NONE;
        }
        if (hand.isOfSpecialClass(k, CLASS_OF_METHOD_CONTEXTS)) {
            return METHOD_CONTEXT;
        }
        return hand.isOfSpecialClass(k, CLASS_OF_BLOCK_CONTEXTS) ? BLOCK_CONTEXT : hand.kinds[k];
    }

    public int classOf(int k) {
        return hand.classAt(k);
    }

    public int size(int k) {
        return hand.holds(k) ? hand.sizes[k] : NONE;
    }

    public int field(int k, int i) {
        return hand.fieldAt(k, i);
    }

    public int byteAt(int k, int i) {
        return hand.bodyByteAt(k, i);
    }

    public int reachable() {
        return walk.reach(hand);
    }

    public int write() {
        if (hand.count == 0) {
            return NONE;
        }
        int left = walk.reach(hand);
        walk.numberAnew(hand);
        incoming.length = 0;
        writeHead(left);
        for (int k = 0; k < SPECIALS; k++) {
            incoming.addWord(walk.renumbered(hand, hand.specials[k]));
        }
        for (int k = 1; k <= hand.count; k++) {
            if (walk.numbers[k] != 0) {
                writeObject(k);
            }
        }
        return incoming.length;
    }

    public int came(int i) {
        return incoming.at(i);
    }

    public boolean keep() {
        if (hand.count == 0) {
            return false;
        }
        kept = hand;
        return true;
    }

    public boolean same() {
        return hand.count != 0 && kept.count != 0 && pairing.pairs(hand, kept);
    }

    /** An image may be at hand and remembered at once, so one of three is always free. */
    private Image spareImage() {
        if (first != hand && first != kept) {
            return first;
        }
        return second != hand && second != kept ? second : third;
    }

    /** The rules in the order in which they are told: the first that is broken tells the place. */
    private int placeOfRefusal(Image next) {
        int place = Layout.headPlace(incoming);
        if (place == NONE) {
            place = Layout.takeSpecials(incoming, next);
        }
        if (place == NONE) {
            place = Layout.takeObjects(incoming, next);
        }
        if (place == NONE) {
            place = Form.roomPlace(next);
        }
        if (place == NONE) {
            place = Form.specialsPlace(next);
        }
        if (place == NONE) {
            place = Form.objectsPlace(next);
        }
        if (place == NONE) {
            place = Form.schedulerPlace(next);
        }
        return place;
    }

    private void writeHead(int objectsLeft) {
        for (int i = 0; i < WORDS_PLACE; i++) {
            incoming.add(HEAD_LOWEST[i]);
        }
        incoming.add(hand.wordsPower);
        incoming.add(hand.countPower);
        incoming.addPair(objectsLeft);
    }

    private void writeObject(int k) {
        incoming.addWord(walk.renumbered(hand, hand.classes[k]));
        incoming.add(hand.kinds[k]);
        incoming.addPair(hand.sizes[k]);
        for (int i = 0; i < hand.sizes[k]; i++) {
            int part = hand.parts[hand.starts[k] + i];
            if (hand.kinds[k] == OF_BYTES) {
                incoming.add(part);
            } else {
                incoming.addWord(walk.renumbered(hand, part));
            }
        }
    }

    private static boolean isNumber(int value) {
        return (value & 1) != 0;
    }

    private static boolean isNumberWithin(int value, int low, int high) {
        return isNumber(value) && numberOf(value) >= low && numberOf(value) <= high;
    }

    /** Only for a value that is a number. */
    private static int numberOf(int value) {
        return value >> 1;
    }

    /** A row of bytes that grows only as far as it is used, since many readers share one room. */
    private static final class Bytes {

        private byte[] row = new byte[256];
        private int length;

        /** Byte i, or NONE when there is none such. */
        private int at(int i) {
            return i >= 0 && i < length ? row[i] & 255 : NONE;
        }

        private boolean reaches(int from, int many) {
            return from + many <= length;
        }

        private int pairAt(int i) {
            return (at(i) << 8) | at(i + 1);
        }

        private int wordAt(int i) {
            return (at(i) << 24) | (at(i + 1) << 16) | (at(i + 2) << 8) | at(i + 3);
        }

        private void add(int b) {
            if (length >= row.length) {
                row = Arrays.copyOf(row, 2 * row.length);
            }
            row[length] = (byte) b;
            length++;
        }

        private void addPair(int pair) {
            add(pair >>> 8);
            add(pair);
        }

        private void addWord(int word) {
            addPair(word >>> 16);
            addPair(word);
        }
    }

    /** Objects taken apart: object k has its parts, fields or bytes, from starts[k] on in parts. */
    private static final class Image {

        private final int[] specials = new int[SPECIALS];
        private int[] classes = new int[64];
        private int[] kinds = new int[64];
        private int[] sizes = new int[64];
        private int[] starts = new int[64];
        private int[] parts = new int[256];
        private int used;
        private int count;
        private int words;
        private int wordsPower;
        private int countPower;

        private void clear() {
            used = 0;
            count = 0;
            words = 0;
        }

        private void addObject(int classValue, int kind, int size) {
            count++;
            if (count >= classes.length) {
                int room = 2 * classes.length;
                classes = Arrays.copyOf(classes, room);
                kinds = Arrays.copyOf(kinds, room);
                sizes = Arrays.copyOf(sizes, room);
                starts = Arrays.copyOf(starts, room);
            }
            classes[count] = classValue;
            kinds[count] = kind;
            sizes[count] = size;
            starts[count] = used;
            words += 4 + (kind == OF_BYTES ? (size + 3) / 4 : size);
        }

        private void addPart(int part) {
            if (used >= parts.length) {
                parts = Arrays.copyOf(parts, 2 * parts.length);
            }
            parts[used] = part;
            used++;
        }

        private boolean holds(int k) {
            return k >= 1 && k <= count;
        }

        /** The number of the object that a value is, or 0, which no object has. */
        private int objectOf(int value) {
            return (value & 1) == 0 && holds(value >> 1) ? value >> 1 : 0;
        }

        private int specialAt(int k) {
            return k >= 0 && k < SPECIALS ? specials[k] : NIL;
        }

        private int classAt(int k) {
            return holds(k) ? classes[k] : NIL;
        }

        private boolean isOfBytes(int k) {
            return holds(k) && kinds[k] == OF_BYTES;
        }

        /** How many fields object k has; 0 also when it is of bytes or is none. */
        private int fieldCount(int k) {
            return holds(k) && kinds[k] == OF_FIELDS ? sizes[k] : 0;
        }

        private int fieldAt(int k, int i) {
            return hasPart(k, i) && kinds[k] == OF_FIELDS ? parts[starts[k] + i] : NIL;
        }

        private int bodyByteAt(int k, int i) {
            return hasPart(k, i) && kinds[k] == OF_BYTES ? parts[starts[k] + i] : NONE;
        }

        private boolean hasPart(int k, int i) {
            return k >= 1 && k <= count && i >= 0 && i < sizes[k];
        }

        private boolean isOfSpecialClass(int k, int special) {
            return k >= 1 && k <= count && classes[k] == specials[special];
        }

        private boolean isContext(int k) {
            return isOfSpecialClass(k, CLASS_OF_METHOD_CONTEXTS)
                || isOfSpecialClass(k, CLASS_OF_BLOCK_CONTEXTS);
        }
    }

    /** Rules (1) to (3): takes bytes apart, and answers the first place that is not such. */
    private static final class Layout {

        private static int headPlace(Bytes incoming) {
            for (int i = 0; i < HEAD_LOWEST.length; i++) {
                int b = incoming.at(i);
                if (b < HEAD_LOWEST[i] || b > HEAD_HIGHEST[i]) {
                    return i;
                }
            }
            if (!incoming.reaches(N_PLACE, 2)) {
                return incoming.length;
            }
            int n = incoming.pairAt(N_PLACE);
            return n < 1 || n > MOST_OBJECTS ? N_PLACE : NONE;
        }

        private static int takeSpecials(Bytes incoming, Image into) {
            into.clear();
            into.wordsPower = incoming.at(WORDS_PLACE);
            into.countPower = incoming.at(COUNT_PLACE);
            int n = incoming.pairAt(N_PLACE);
            for (int k = 0; k < SPECIALS; k++) {
                int at = SPECIALS_PLACE + 4 * k;
                if (!isValueAt(incoming, at, n)) {
                    return at;
                }
                into.specials[k] = incoming.wordAt(at);
            }
            return NONE;
        }

        private static int takeObjects(Bytes incoming, Image into) {
            int n = incoming.pairAt(N_PLACE);
            int at = OBJECTS_PLACE;
            for (int k = 1; k <= n; k++) {
                int place = objectHeadPlace(incoming, at, n);
                if (place != NONE) {
                    return place;
                }
                int kind = incoming.at(at + 4);
                int size = incoming.pairAt(at + 5);
                into.addObject(incoming.wordAt(at), kind, size);
                at += BODY_OFFSET;
                place = kind == OF_BYTES
                    ? takeBytes(incoming, at, size, into)
                    : takeFields(incoming, at, size, n, into);
                if (place != NONE) {
                    return place;
                }
                at += bodyLength(kind, size);
            }
            return incoming.length > at ? at : NONE;
        }

        private static int objectHeadPlace(Bytes incoming, int at, int n) {
            if (!isValueAt(incoming, at, n)) {
                return at;
            }
            int kind = incoming.at(at + 4);
            if (kind != OF_FIELDS && kind != OF_BYTES) {
                return at + 4;
            }
            return incoming.reaches(at + 5, 2) ? NONE : at + 5;
        }

        private static int takeBytes(Bytes incoming, int from, int size, Image into) {
            if (!incoming.reaches(from, size)) {
                return from;
            }
            for (int i = 0; i < size; i++) {
                into.addPart(incoming.at(from + i));
            }
            return NONE;
        }

        private static int takeFields(Bytes incoming, int from, int size, int n, Image into) {
            for (int i = 0; i < size; i++) {
                int at = from + 4 * i;
                if (!isValueAt(incoming, at, n)) {
                    return at;
                }
                into.addPart(incoming.wordAt(at));
            }
            return NONE;
        }

        private static int bodyLength(int kind, int size) {
            return kind == OF_BYTES ? size : 4 * size;
        }

        /** Every odd int is a number; of the even ones only nil and objects 1 to n are values. */
        private static boolean isValueAt(Bytes incoming, int at, int n) {
            if (!incoming.reaches(at, 4)) {
                return false;
            }
            int value = incoming.wordAt(at);
            return isNumber(value) || value >= NIL && value <= 2 * n;
        }
    }

    /** Rules (4) to (7): whether an image that is there whole is also well formed. */
    private static final class Form {

        private static final int LAST_OF_TWO = 1;
        private static final int FIRST_CLASS = 2;
        private static final int LAST_CLASS = 12;
        private static final int CHARACTERS = 13;

        private static final int SHAPE_SIZE = 255;
        private static final int SHAPE_INDEXED = 1024;
        private static final int SHAPE_BYTES = 2048;

        private static final int LARGEST_METHOD_HEAD = (1 << 23) - 1;
        private static final int LARGEST_NUMBER = 1073741823;

        private static int roomPlace(Image image) {
            if (image.words > 1 << image.wordsPower) {
                return WORDS_PLACE;
            }
            return image.count > 1 << image.countPower ? COUNT_PLACE : NONE;
        }

        private static int specialsPlace(Image image) {
            for (int k = 0; k <= SCHEDULER; k++) {
                if (!isSpecialFit(image, k)) {
                    return SPECIALS_PLACE + 4 * k;
                }
            }
            return NONE;
        }

        private static boolean isSpecialFit(Image image, int k) {
            int object = image.objectOf(image.specialAt(k));
            if (object == 0) {
                return false;
            }
            if (k <= LAST_OF_TWO) {
                return isNewSince(image, 0, k);
            }
            if (k <= LAST_CLASS) {
                return isClass(image, object) && isNewSince(image, FIRST_CLASS, k);
            }
            if (k == CHARACTERS) {
                return image.fieldCount(object) == 256;
            }
            return isPlain(image, object, 2);
        }

        private static boolean isNewSince(Image image, int from, int k) {
            for (int i = from; i < k; i++) {
                if (image.specialAt(i) == image.specialAt(k)) {
                    return false;
                }
            }
            return true;
        }

        private static int objectsPlace(Image image) {
            int at = OBJECTS_PLACE;
            for (int k = 1; k <= image.count; k++) {
                if (!hasFitClass(image, k)
                    || image.isOfSpecialClass(k, CLASS_OF_METHOD_CONTEXTS)
                        && !isMethodContext(image, k)
                    || image.isOfSpecialClass(k, CLASS_OF_BLOCK_CONTEXTS)
                        && !isBlockContext(image, k)) {
                    return at;
                }
                at += BODY_OFFSET + Layout.bodyLength(image.kinds[k], image.sizes[k]);
            }
            return NONE;
        }

        private static boolean hasFitClass(Image image, int k) {
            int classObject = image.objectOf(image.classAt(k));
            if (!isClass(image, classObject)) {
                return false;
            }
            int shape = numberOf(image.fieldAt(classObject, 2));
            boolean wantsBytes = (shape & SHAPE_BYTES) != 0;
            if (wantsBytes || image.isOfBytes(k)) {
                return wantsBytes && image.isOfBytes(k);
            }
            int least = shape & SHAPE_SIZE;
            int fields = image.fieldCount(k);
            return fields == least || fields > least && (shape & SHAPE_INDEXED) != 0;
        }

        private static boolean isMethodContext(Image image, int k) {
            int method = image.objectOf(image.fieldAt(k, 3));
            if (!isMethod(image, method)) {
                return false;
            }
            int head = numberOf(image.fieldAt(method, 0));
            int lowest = temporariesOf(head);
            int highest = lowest + depthOf(head);
            int height = image.fieldAt(k, 2);
            return image.fieldCount(k) == 5 + highest
                && areLinksFit(image, k)
                && isNumberWithin(height, lowest, highest)
                && isNilFrom(image, k, 5 + numberOf(height));
        }

        private static boolean isBlockContext(Image image, int k) {
            int home = image.objectOf(image.fieldAt(k, 5));
            int method = image.objectOf(image.fieldAt(home, 3));
            if (!image.isOfSpecialClass(home, CLASS_OF_METHOD_CONTEXTS)
                || image.fieldCount(home) < 5 || !isMethod(image, method)) {
                return false;
            }
            int highest = depthOf(numberOf(image.fieldAt(method, 0)));
            int height = image.fieldAt(k, 2);
            return image.fieldCount(k) == 6 + highest
                && areLinksFit(image, k)
                && isNumberWithin(height, 0, highest)
                && isNumberWithin(image.fieldAt(k, 3), 0, 15)
                && isNilOrCounting(image.fieldAt(k, 4))
                && isNilFrom(image, k, 6 + numberOf(height));
        }

        /** Fields 0 and 1, which both sorts of contexts share. */
        private static boolean areLinksFit(Image image, int k) {
            int sender = image.fieldAt(k, 0);
            return (sender == NIL || image.isContext(image.objectOf(sender)))
                && isNilOrCounting(image.fieldAt(k, 1));
        }

        private static boolean isNilOrCounting(int value) {
            return value == NIL || isNumberWithin(value, 0, LARGEST_NUMBER);
        }

        private static boolean isNilFrom(Image image, int k, int from) {
            int fields = image.fieldCount(k);
            for (int i = from; i < fields; i++) {
                if (image.fieldAt(k, i) != NIL) {
                    return false;
                }
            }
            return true;
        }

        private static boolean isClass(Image image, int k) {
            int value = image.fieldAt(k, 2);
            if (image.fieldCount(k) < 3 || !isNumber(value)) {
                return false;
            }
            int shape = numberOf(value);
            if ((shape & SHAPE_BYTES) != 0) {
                return shape == SHAPE_BYTES + SHAPE_INDEXED;
            }
            return (shape & ~(SHAPE_SIZE | SHAPE_INDEXED)) == 0;
        }

        private static boolean isMethod(Image image, int k) {
            int head = image.fieldAt(k, 0);
            return image.fieldCount(k) >= 2
                && isNumberWithin(head, 0, LARGEST_METHOD_HEAD)
                && temporariesOf(numberOf(head)) >= argumentsOf(numberOf(head))
                && image.isOfBytes(image.objectOf(image.fieldAt(k, 1)));
        }

        private static int argumentsOf(int methodHead) {
            return methodHead & 15;
        }

        private static int temporariesOf(int methodHead) {
            return (methodHead >> 4) & 31;
        }

        private static int depthOf(int methodHead) {
            return (methodHead >> 9) & 63;
        }

        /** Of so many fields or more, and no context. */
        private static boolean isPlain(Image image, int k, int fields) {
            return image.fieldCount(k) >= fields && !image.isContext(k);
        }

        private static int schedulerPlace(Image image) {
            int scheduler = image.objectOf(image.specialAt(SCHEDULER));
            int lists = image.objectOf(image.fieldAt(scheduler, 0));
            int process = image.objectOf(image.fieldAt(scheduler, 1));
            return areListsFit(image, lists) && isProcessFit(image, process)
                ? NONE : SPECIALS_PLACE + 4 * SCHEDULER;
        }

        private static boolean areListsFit(Image image, int lists) {
            if (!isPlain(image, lists, 8)) {
                return false;
            }
            for (int i = 0; i < 8; i++) {
                if (!isPlain(image, image.objectOf(image.fieldAt(lists, i)), 2)) {
                    return false;
                }
            }
            return true;
        }

        private static boolean isProcessFit(Image image, int process) {
            int context = image.objectOf(image.fieldAt(process, 1));
            return isPlain(image, process, 4)
                && image.isContext(context)
                && image.fieldAt(context, 1) != NIL
                && isNumberWithin(image.fieldAt(process, 2), 1, 8);
        }
    }

    /** Goes from the special values to all that can be reached. */
    private static final class Walk {

        /** Of each object 0 as long as it is not reached. */
        private int[] numbers = new int[64];
        private int[] queue = new int[64];
        private int reached;

        private int reach(Image image) {
            clear(image);
            for (int k = 0; k < SPECIALS; k++) {
                visit(image.objectOf(image.specials[k]));
            }
            for (int next = 0; next < reached && next < image.count; next++) {
                int k = queue[next];
                visit(image.objectOf(image.classAt(k)));
                int fields = image.fieldCount(k);
                for (int i = 0; i < fields; i++) {
                    visit(image.objectOf(image.fieldAt(k, i)));
                }
            }
            return reached;
        }

        private void clear(Image image) {
            reached = 0;
            if (numbers.length < image.classes.length) {
                numbers = new int[image.classes.length];
                queue = new int[image.classes.length];
            }
            Arrays.fill(numbers, 0);
        }

        private void visit(int k) {
            if (k != 0 && numbers[k] == 0) {
                numbers[k] = k;
                queue[reached] = k;
                reached++;
            }
        }

        /** Only behind reach of the same image. */
        private void numberAnew(Image image) {
            int number = 0;
            for (int k = 1; k <= image.count; k++) {
                if (numbers[k] != 0) {
                    number++;
                    numbers[k] = number;
                }
            }
        }

        private int renumbered(Image image, int value) {
            int object = image.objectOf(value);
            return object == 0 ? value : 2 * numbers[object];
        }
    }

    /** Goes through two images side by side and pairs their objects one to one. */
    private static final class Pairing {

        /** Of each object of the one image its partner in the other, and back; 0 without one. */
        private int[] partners = new int[64];
        private int[] partnersBack = new int[64];
        private int[] queue = new int[64];
        private int paired;

        private boolean pairs(Image one, Image other) {
            clear(one, other);
            if (one.wordsPower != other.wordsPower || one.countPower != other.countPower) {
                return false;
            }
            for (int k = 0; k < SPECIALS; k++) {
                if (!match(one, one.specials[k], other, other.specials[k])) {
                    return false;
                }
            }
            for (int next = 0; next < paired && next < one.count; next++) {
                if (!matchBodies(one, queue[next], other, partners[queue[next]])) {
                    return false;
                }
            }
            return true;
        }

        private void clear(Image one, Image other) {
            paired = 0;
            int room = Math.max(one.classes.length, other.classes.length);
            if (partners.length < room) {
                partners = new int[room];
                partnersBack = new int[room];
                queue = new int[room];
            }
            Arrays.fill(partners, 0);
            Arrays.fill(partnersBack, 0);
        }

        private boolean match(Image one, int value, Image other, int otherValue) {
            int object = one.objectOf(value);
            int partner = other.objectOf(otherValue);
            if (object == 0 || partner == 0) {
                return object == partner && value == otherValue;
            }
            if (partners[object] == 0 && partnersBack[partner] == 0) {
                partners[object] = partner;
                partnersBack[partner] = object;
                queue[paired] = object;
                paired++;
            }
            return partners[object] == partner;
        }

        private boolean matchBodies(Image one, int object, Image other, int partner) {
            if (one.kinds[object] != other.kinds[partner]
                || one.sizes[object] != other.sizes[partner]
                || !match(one, one.classes[object], other, other.classes[partner])) {
                return false;
            }
            boolean ofBytes = one.kinds[object] == OF_BYTES;
            for (int i = 0; i < one.sizes[object]; i++) {
                int part = one.parts[one.starts[object] + i];
                int otherPart = other.parts[other.starts[partner] + i];
                if (ofBytes ? part != otherPart : !match(one, part, other, otherPart)) {
                    return false;
                }
            }
            return true;
        }
    }
}
