import java.nio.ByteBuffer;
import java.util.Arrays;

/**
 * The limits that no 512 calls can come to: 65536 bytes, 8191 objects, 2^w and 2^e above the least.
 * What an object answers there is free by the document; this class holds the sentences there too.
 */
public final class LimitsTest {

    private static final Due DUE = new Due("LimitsTest");
    private static final int NONE = ImageReader.NONE;
    private static final int ANY_NUMBER = Integer.MAX_VALUE;

    public static void main(String[] args) {
        promise2NoMoreThan65536();
        promise2RefusedChangesNothing();
        promise5AnImageOf65536();
        promise5AnImageOf8191Objects();
        rule4WordsByEachW();
        rule4ObjectsByEachE();
        DUE.end();
    }

    private static Counted full(int bytes) {
        Counted reader = new Counted(ANY_NUMBER);
        reader.feed(new byte[65520]);
        reader.end(65516);
        if (bytes > 65516) {
            reader.feed(1, 2, 3, 4, 5);
        }
        reader.end(bytes);
        return reader;
    }

    /** "IllegalStateException: there would be more than 65536." */
    private static void promise2NoMoreThan65536() {
        for (int before : new int[] {65496, 65515, 65516, 65517, 65520, 65535, 65536}) {
            Counted reader = full(before);
            boolean fits = before + 20 <= 65536;
            DUE.is("feed behind " + before + " throws", reader.feedThrows(6, 7, 8, 9, 10), !fits);
            int after = fits ? before + 20 : before;
            DUE.is("behind " + before + ": the next", reader.came(after), NONE);
            DUE.isTrue("behind " + before + ": the last", reader.came(after - 1) != NONE);
            DUE.is("behind " + before + ": end", reader.end(after), after);
        }
        Counted reader = full(65536);
        DUE.is("full: came(65535)", reader.came(65535), 5);
        DUE.is("full: came(65536)", reader.came(65536), NONE);
        DUE.is("full: change(65535, 6)", reader.change(65535, 6), 5);
        DUE.is("full: change(65536, 6)", reader.change(65536, 6), NONE);
        DUE.isTrue("full: end(65537) throws", reader.endThrows(65537));
        DUE.is("full: read()", reader.read(), 0);
        DUE.is("used up: feed throws", reader.feedThrows(1, 2, 3, 4, 5), false);
    }

    /** "A call that throws .. changes nothing." */
    private static void promise2RefusedChangesNothing() {
        Counted reader = full(65517);
        for (int i = 0; i < 3; i++) {
            DUE.isTrue("feed throws", reader.feedThrows(-1, -1, -1, -1, -1));
        }
        DUE.is("came(65515)", reader.came(65515), 0);
        DUE.is("came(65516)", reader.came(65516), 0);
        DUE.is("came(65517)", reader.came(65517), NONE);
        DUE.is("end(65516)", reader.end(65516), 65517);
        DUE.is("feed throws", reader.feedThrows(-1, -1, -1, -1, -1), false);
        DUE.is("came(65516) at last", reader.came(65516), 255);
    }

    private static void limit(String what, Model model, int place) {
        Counted reader = new Counted(ANY_NUMBER);
        DUE.is(what + ": read()", reader.read(model), place);
        DUE.is(what + ": objects()", reader.objects(), place == NONE ? model.things.size() : 0);
        DUE.is(what + ": words()", reader.words(), place == NONE ? model.words() : 0);
    }

    private static void isWrittenAsItIs(Counted reader, byte[] want) {
        DUE.is("write()", reader.write(), want.length);
        byte[] got = new byte[want.length];
        for (int i = 0; i < got.length; i++) {
            got[i] = (byte) reader.came(i);
        }
        DUE.is("the first other byte", Arrays.mismatch(got, want), -1);
        DUE.is("came behind the last", reader.came(want.length), NONE);
        reader.keep();
        DUE.is("read() of what was written", reader.read(), NONE);
        DUE.isTrue("same()", reader.same());
    }

    /** All but the last twenty first, since twenty does not divide 65536. */
    private static Counted fedWith(byte[] bytes) {
        Counted reader = new Counted(ANY_NUMBER);
        reader.feed(Arrays.copyOf(bytes, bytes.length - 20));
        ByteBuffer last = ByteBuffer.wrap(bytes, bytes.length - 20, 20);
        reader.feed(last.getInt(), last.getInt(), last.getInt(), last.getInt(), last.getInt());
        return reader;
    }

    private static void promise5AnImageOf65536() {
        Model model = Model.small();
        model.w = 15;
        int size = 65536 - model.bytes().length - 7;
        int last = model.add(Model.BYTES_CLASS, Model.BYTES, new int[size]);
        model.thing(last).parts[size - 1] = 9;
        model.specials[48] = Model.object(Model.BLOCK);
        model.specials[49] = Model.object(last);
        DUE.is("bytes in all", model.bytes().length, 65536);
        Counted reader = fedWith(model.bytes());
        DUE.is("65536 bytes: read()", reader.read(), NONE);
        DUE.is("size of the largest", reader.size(last), size);
        DUE.is("its last byte", reader.byteAt(last, size - 1), 9);
        DUE.is("behind its last byte", reader.byteAt(last, size), NONE);
        isWrittenAsItIs(reader, model.bytes());
    }

    /** "N, how many objects (1 .. 8191)" */
    private static void promise5AnImageOf8191Objects() {
        Model model = Model.small().fillObjects(8191);
        model.w = 16;
        model.e = 13;
        limit("8191 objects, e 13", model, NONE);
        model.e = 12;
        limit("8191 objects, e 12", model, 5);
        model.e = 14;
        model.specials[15] = Model.object(Model.BLOCK);
        model.specials[49] = Model.object(8191);
        Counted reader = new Counted(ANY_NUMBER);
        DUE.is("8191 objects: read()", reader.read(model), NONE);
        DUE.is("8191 objects: reachable()", reader.reachable(), Model.SMALL_COUNT + 1);
        DUE.is("kind(8191)", reader.kind(8191), 0);
        DUE.is("kind(8192)", reader.kind(8192), NONE);
        DUE.is("classOf(8191)", reader.classOf(8191), Model.object(Model.EMPTY_CLASS));
        Model want = Model.small().fillObjects(Model.SMALL_COUNT + 1);
        want.w = 16;
        want.e = 14;
        want.specials[15] = Model.object(Model.BLOCK);
        want.specials[49] = Model.object(Model.SMALL_COUNT + 1);
        isWrittenAsItIs(reader, want.bytes());
        model.specials[40] = Model.object(8192);
        limit("8191 objects and one that is none", model, Model.specialPlace(40));
        model.specials[40] = 0;
        model.add(Model.EMPTY_CLASS, Model.FIELDS);
        limit("8192 objects", model, 6);
    }

    /** "no more than 2^w words"; above 15, 65536 bytes hold no such many. */
    private static void rule4WordsByEachW() {
        for (int w = 12; w <= 15; w++) {
            int most = 1 << w;
            for (int words = most - 1; words <= most + 1; words++) {
                Model model = Model.small();
                model.e = 13;
                model.w = w;
                model.add(Model.PLAIN_CLASS, Model.FIELDS, new int[(words - model.words()) % 4]);
                model.fillWords(words);
                DUE.is("words", model.words(), words);
                limit(words + " words, w " + w, model, words <= most ? NONE : 4);
                model.w = w + 1;
                limit(words + " words, w " + model.w, model, NONE);
            }
        }
    }

    /** "no more than 2^e"; above 12, no image has so many. */
    private static void rule4ObjectsByEachE() {
        for (int e = 10; e <= 12; e++) {
            int most = 1 << e;
            for (int objects = most - 1; objects <= most + 1; objects++) {
                Model model = Model.small().fillObjects(objects);
                model.e = e;
                model.w = 18;
                limit(objects + " objects, e " + e, model, objects <= most ? NONE : 5);
                model.e = e + 1;
                limit(objects + " objects, e " + model.e, model, NONE);
            }
        }
    }
}
