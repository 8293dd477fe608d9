import java.util.function.Consumer;

/** Promises 1 to 4 and 16: a new object, and the bytes that come in. */
public final class BytesTest {

    private static final Due DUE = new Due("BytesTest");
    private static final int NONE = ImageReader.NONE;
    private static final int LEAST = Integer.MIN_VALUE;
    private static final int MOST = Integer.MAX_VALUE;

    public static void main(String[] args) {
        promise1NoBytes();
        promise1NoImage();
        promise1ObjectsAreApart();
        promise2HighestByteFirst();
        promise2BehindThoseThatCame();
        promise2AsManyAsCallsBring();
        promise3OnlyTheFirst();
        promise3HowManyThereWere();
        promise3NotSoManyOrBelowZero();
        promise4BecomesAnother();
        promise4AnswersWhatItWas();
        promise4NoneSuch();
        promise4NoByte();
        promise16Bytes();
        promise16NoneSuch();
        refusedCallsChangeNothing();
        DUE.end();
    }

    /** Twenty bytes: 0, 1, 127, 128, 254, 255, and then 6 to 19. */
    private static Counted twenty() {
        Counted reader = new Counted();
        reader.feed(0x00017f80, 0xfeff0607, 0x08090a0b, 0x0c0d0e0f, 0x10111213);
        return reader;
    }

    private static int twentyAt(int i) {
        int[] first = {0, 1, 127, 128, 254, 255};
        return i < first.length ? first[i] : i;
    }

    /** "No bytes" */
    private static void promise1NoBytes() {
        Counted reader = new Counted();
        DUE.is("new: came(0)", reader.came(0), NONE);
        DUE.is("new: change(0, 0)", reader.change(0, 0), NONE);
        DUE.isTrue("new: end(1) throws", reader.endThrows(1));
        DUE.is("new: end(0)", reader.end(0), 0);
        DUE.is("new: read()", reader.read(), 0);
    }

    /** "no image": what each call says that it answers without one. */
    private static void promise1NoImage() {
        Counted reader = new Counted();
        DUE.is("new: objects()", reader.objects(), 0);
        DUE.is("new: words()", reader.words(), 0);
        DUE.is("new: reachable()", reader.reachable(), 0);
        for (int k : new int[] {LEAST, -1, 0, 1, 49, 50, MOST}) {
            DUE.is("new: special(" + k + ")", reader.special(k), 0);
            DUE.is("new: kind(" + k + ")", reader.kind(k), NONE);
            DUE.is("new: classOf(" + k + ")", reader.classOf(k), 0);
            DUE.is("new: size(" + k + ")", reader.size(k), NONE);
            DUE.is("new: field(" + k + ", 0)", reader.field(k, 0), 0);
            DUE.is("new: byteAt(" + k + ", 0)", reader.byteAt(k, 0), NONE);
        }
        DUE.is("new: write()", reader.write(), NONE);
        DUE.is("new: keep()", reader.keep(), false);
        DUE.is("new: same()", reader.same(), false);
        DUE.is("NONE", NONE, -1);
    }

    private static void promise1ObjectsAreApart() {
        Counted one = twenty();
        Counted two = new Counted();
        DUE.is("another object: came(0)", two.came(0), NONE);
        two.feed(-1, -1, -1, -1, -1);
        two.end(1);
        DUE.is("the first object: came(0)", one.came(0), 0);
        DUE.is("the first object: end(20)", one.end(20), 20);
        Counted third = Counted.with(Model.small());
        DUE.is("the first object: objects()", one.objects(), 0);
        DUE.is("the third object: objects()", third.objects(), Model.SMALL_COUNT);
    }

    /** "the highest byte of each int first" */
    private static void promise2HighestByteFirst() {
        for (int place = 0; place < 5; place++) {
            int[] ints = new int[5];
            ints[place] = 0x81027fff;
            Counted reader = new Counted();
            reader.feed(ints[0], ints[1], ints[2], ints[3], ints[4]);
            for (int i = 0; i < 20; i++) {
                int want = i / 4 == place ? new int[] {129, 2, 127, 255}[i % 4] : 0;
                DUE.is("feed of int " + place + ": came(" + i + ")", reader.came(i), want);
            }
        }
        Counted reader = twenty();
        for (int i = 0; i < 20; i++) {
            DUE.is("twenty: came(" + i + ")", reader.came(i), twentyAt(i));
        }
    }

    /** "Twenty bytes come behind those that came in" */
    private static void promise2BehindThoseThatCame() {
        Counted reader = new Counted();
        for (int i = 0; i < 60; i++) {
            DUE.is("before feed " + i + ": came", reader.came(20 * i), NONE);
            DUE.is("feed " + i + " throws", reader.feedThrows(i << 24, 0, LEAST, MOST, i), false);
            DUE.is("feed " + i + ": its first", reader.came(20 * i), i);
            DUE.is("feed " + i + ": its last", reader.came(20 * i + 19), i);
            DUE.is("feed " + i + ": behind its last", reader.came(20 * i + 20), NONE);
        }
        DUE.is("the first of all", reader.came(0), 0);
        DUE.is("fed 60 times: end", reader.end(1200), 1200);
        for (int n : new int[] {0, 1, 19, 20}) {
            Counted cut = twenty();
            cut.end(n);
            cut.feed(0x61000000, 0, 0, 0, 98);
            DUE.is("behind " + n + ": its first", cut.came(n), 97);
            DUE.is("behind " + n + ": its last", cut.came(n + 19), 98);
            DUE.is("behind " + n + ": no more", cut.came(n + 20), NONE);
        }
    }

    /** No 512 calls bring as many as are refused; LimitsTest goes on from here. */
    private static void promise2AsManyAsCallsBring() {
        Counted reader = new Counted();
        int feeds = Counted.MOST_CALLS - 3;
        for (int i = 1; i <= feeds; i++) {
            DUE.is("feed " + i + " throws", reader.feedThrows(i, i, i, i, i), false);
        }
        DUE.is("the last of all", reader.came(20 * feeds - 1), feeds & 255);
        DUE.is("behind the last of all", reader.came(20 * feeds), NONE);
        DUE.is("how many", reader.end(0), 20 * feeds);
    }

    /** "The bytes that came in are only the first n." */
    private static void promise3OnlyTheFirst() {
        for (int n = 0; n <= 20; n++) {
            Counted reader = twenty();
            reader.end(n);
            for (int i = 0; i < 21; i++) {
                int want = i < n ? twentyAt(i) : NONE;
                DUE.is("end(" + n + "): came(" + i + ")", reader.came(i), want);
            }
            DUE.is("end(" + n + "): change behind", reader.change(n, 1), NONE);
            DUE.is("end(" + n + "): end again", reader.end(n), n);
        }
    }

    /** "Answers how many there were." */
    private static void promise3HowManyThereWere() {
        Counted reader = twenty();
        DUE.is("all: end(20)", reader.end(20), 20);
        DUE.is("end(19)", reader.end(19), 20);
        DUE.is("end(4)", reader.end(4), 19);
        DUE.is("end(1)", reader.end(1), 4);
        DUE.is("end(0)", reader.end(0), 1);
        DUE.is("none: end(0)", reader.end(0), 0);
        reader.feed(0, 0, 0, 0, 0);
        DUE.is("fed again: end(0)", reader.end(0), 20);
    }

    /** "IllegalArgumentException: there are not so many, or n is below 0." */
    private static void promise3NotSoManyOrBelowZero() {
        for (int many : new int[] {0, 1, 19, 20}) {
            Counted reader = twenty();
            reader.end(many);
            for (int n : new int[] {LEAST, LEAST + many, -many - 1, -1, many + 1, many + 20,
                many + 256, many + 65536, MOST}) {
                DUE.isTrue("of " + many + ": end(" + n + ") throws", reader.endThrows(n));
            }
            DUE.is("of " + many + ": end(" + many + ")", reader.end(many), many);
            DUE.is("of " + many + ": end(0) throws", reader.endThrows(0), false);
        }
    }

    /** "One of the bytes that came in becomes another one (0 .. 255)." */
    private static void promise4BecomesAnother() {
        for (int i : new int[] {0, 1, 10, 18, 19}) {
            for (int b : new int[] {0, 1, 127, 128, 254, 255}) {
                Counted reader = twenty();
                reader.change(i, b);
                for (int j = 0; j < 20; j++) {
                    DUE.is("change(" + i + ", " + b + "): came(" + j + ")", reader.came(j),
                        j == i ? b : twentyAt(j));
                }
                DUE.is("change(" + i + ", " + b + "): end(20)", reader.end(20), 20);
            }
        }
    }

    /** "Answers what it was" */
    private static void promise4AnswersWhatItWas() {
        Counted reader = twenty();
        for (int i = 0; i < 20; i++) {
            DUE.is("change(" + i + ", 255)", reader.change(i, 255), twentyAt(i));
            DUE.is("change(" + i + ", 0)", reader.change(i, 0), 255);
            DUE.is("change(" + i + ", 0) again", reader.change(i, 0), 0);
        }
    }

    /** "NONE when there is none such" */
    private static void promise4NoneSuch() {
        for (int many : new int[] {0, 1, 19, 20}) {
            Counted reader = twenty();
            reader.end(many);
            for (int i : new int[] {LEAST, LEAST + 1, -20, -1, many, many + 1, 256, 65536, MOST}) {
                DUE.is("of " + many + ": change(" + i + ", 7)", reader.change(i, 7), NONE);
            }
            for (int i = 0; i < many; i++) {
                DUE.is("of " + many + ": came(" + i + ")", reader.came(i), twentyAt(i));
            }
            DUE.is("of " + many + ": end", reader.end(many), many);
        }
    }

    /** "NONE when .. b is none" */
    private static void promise4NoByte() {
        Counted reader = twenty();
        for (int b : new int[] {LEAST, -256, -255, -128, -1, 256, 257, 511, 65536, MOST}) {
            for (int i : new int[] {0, 5, 19}) {
                DUE.is("change(" + i + ", " + b + ")", reader.change(i, b), NONE);
                DUE.is("came(" + i + ") behind it", reader.came(i), twentyAt(i));
            }
            DUE.is("change(20, " + b + ")", reader.change(20, b), NONE);
        }
    }

    /** "Byte i of those that came in": of those that were fed, changed, or written. */
    private static void promise16Bytes() {
        Counted reader = twenty();
        reader.change(19, 200);
        DUE.is("fed: came(0)", reader.came(0), 0);
        DUE.is("fed: came(5)", reader.came(5), 255);
        DUE.is("changed: came(19)", reader.came(19), 200);
        Counted written = Counted.with(Model.small());
        DUE.is("read: came(0)", written.came(0), NONE);
        int many = written.write();
        DUE.is("written: came(0)", written.came(0), 77);
        DUE.is("written: came of the last", written.came(many - 1), 0);
        DUE.is("written: came behind the last", written.came(many), NONE);
    }

    /** "NONE when there is none such." */
    private static void promise16NoneSuch() {
        for (int many : new int[] {0, 1, 19, 20}) {
            Counted reader = twenty();
            reader.end(many);
            for (int i : new int[] {LEAST, LEAST + many - 1, -256, -1, many, many + 1, 256, 65535,
                65536, MOST}) {
                DUE.is("of " + many + ": came(" + i + ")", reader.came(i), NONE);
            }
            DUE.is("of " + many + ": the last", reader.came(many - 1),
                many == 0 ? NONE : twentyAt(many - 1));
        }
        Counted used = twenty();
        used.read();
        DUE.is("used up: came(0)", used.came(0), NONE);
    }

    /** An image at hand, another one remembered, and forty bytes. */
    private static Counted busy() {
        Model kept = Model.small();
        kept.specials[40] = Model.number(1);
        Counted reader = Counted.with(kept);
        reader.keep();
        reader.read(Model.small());
        reader.feed(1, 2, 3, 4, 5);
        reader.feed(6, 7, 8, 9, 10);
        return reader;
    }

    private static void changesNothing(String call, Consumer<Counted> refused) {
        Asker before = new Asker(BytesTest::busy);
        Asker after = new Asker(() -> {
            Counted reader = busy();
            refused.accept(reader);
            return reader;
        });
        DUE.isText("the state behind " + call, after.state(), before.state());
    }

    /** "A call that throws, or is refused, changes nothing." */
    private static void refusedCallsChangeNothing() {
        changesNothing("end(-1)", reader -> reader.endThrows(-1));
        changesNothing("end(41)", reader -> reader.endThrows(41));
        changesNothing("change(-1, 9)", reader -> reader.change(-1, 9));
        changesNothing("change(40, 9)", reader -> reader.change(40, 9));
        changesNothing("change(39, 256)", reader -> reader.change(39, 256));
        changesNothing("change(0, -1)", reader -> reader.change(0, -1));
        Counted reader = twenty();
        DUE.is("no image: write()", reader.write(), NONE);
        DUE.is("no image: keep()", reader.keep(), false);
        DUE.is("no image: same()", reader.same(), false);
        for (int i = 0; i < 20; i++) {
            DUE.is("refused calls: came(" + i + ")", reader.came(i), twentyAt(i));
        }
        DUE.is("refused calls: end(20)", reader.end(20), 20);
    }
}
