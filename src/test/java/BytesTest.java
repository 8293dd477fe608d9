/** Promises 1, 2, 3, 4 and 16: a new object, and the bytes that come in. */
public final class BytesTest {

    private static final Due DUE = new Due("BytesTest");

    public static void main(String[] args) {
        aNewObjectIsEmpty();
        feedAddsTwentyBytes();
        feedRefusesMoreThanTheLimit();
        endCuts();
        endRefuses();
        changeSetsOneByte();
        cameAnswersBytes();
        DUE.end();
    }

    private static void aNewObjectIsEmpty() {
        ImageReader reader = new ImageReader();
        DUE.is("new: end(0)", reader.end(0), 0);
        DUE.is("new: came(0)", reader.came(0), ImageReader.NONE);
        DUE.is("new: change(0, 0)", reader.change(0, 0), ImageReader.NONE);
        DUE.is("new: objects()", reader.objects(), 0);
        DUE.is("new: words()", reader.words(), 0);
        DUE.is("new: reachable()", reader.reachable(), 0);
        DUE.is("new: special(0)", reader.special(0), 0);
        DUE.is("new: kind(1)", reader.kind(1), ImageReader.NONE);
        DUE.is("new: kind(0)", reader.kind(0), ImageReader.NONE);
        DUE.is("new: classOf(1)", reader.classOf(1), 0);
        DUE.is("new: size(1)", reader.size(1), ImageReader.NONE);
        DUE.is("new: field(1, 0)", reader.field(1, 0), 0);
        DUE.is("new: byteAt(1, 0)", reader.byteAt(1, 0), ImageReader.NONE);
        DUE.is("new: write()", reader.write(), ImageReader.NONE);
        DUE.is("new: keep()", reader.keep(), false);
        DUE.is("new: same()", reader.same(), false);
        DUE.is("new: read()", reader.read(), 0);
        DUE.is("NONE", ImageReader.NONE, -1);
    }

    private static void feedAddsTwentyBytes() {
        ImageReader reader = new ImageReader();
        reader.feed(0x01020304, 0xff80007f, -1, 0, 0x10203040);
        reader.feed(0x0a0b0c0d, 0, 0, 0, 0x00000009);
        int[] want = {1, 2, 3, 4, 255, 128, 0, 127, 255, 255, 255, 255, 0, 0, 0, 0, 16, 32, 48, 64,
            10, 11, 12, 13, 0, 0, 0, 0, 0, 0, 0, 0, 0, 0, 0, 0, 0, 0, 0, 9};
        for (int i = 0; i < want.length; i++) {
            DUE.is("feed: came(" + i + ")", reader.came(i), want[i]);
        }
        DUE.is("feed: came(40)", reader.came(40), ImageReader.NONE);
        DUE.is("feed: end(40)", reader.end(40), 40);
    }

    private static boolean feedThrows(ImageReader reader) {
        try {
            reader.feed(1, 2, 3, 4, 5);
            return false;
        } catch (IllegalStateException e) {
            return true;
        }
    }

    /** The limit lies beyond the 512 calls that an object is promised to bear. */
    private static void feedRefusesMoreThanTheLimit() {
        ImageReader reader = new ImageReader();
        for (int i = 0; i < 3276; i++) {
            DUE.is("feed number " + i + " throws", feedThrows(reader), false);
        }
        DUE.is("feed to 65540 throws", feedThrows(reader), true);
        DUE.is("end(65517) behind the refusal", reader.end(65517), 65520);
        DUE.is("feed to 65537 throws", feedThrows(reader), true);
        DUE.is("end(65516)", reader.end(65516), 65517);
        DUE.is("feed to 65536 throws", feedThrows(reader), false);
        DUE.is("came(65535)", reader.came(65535), 5);
        DUE.is("came(65536)", reader.came(65536), ImageReader.NONE);
        DUE.is("full: feed throws", feedThrows(reader), true);
        DUE.is("full: read()", reader.read(), 0);
        DUE.is("used up: feed throws", feedThrows(reader), false);
    }

    private static void endCuts() {
        ImageReader reader = new ImageReader();
        reader.feed(1, 2, 3, 4, 5);
        DUE.is("end(20)", reader.end(20), 20);
        DUE.is("end(4)", reader.end(4), 20);
        DUE.is("end(4) again", reader.end(4), 4);
        DUE.is("came(3)", reader.came(3), 1);
        DUE.is("came(4) behind the end", reader.came(4), ImageReader.NONE);
        DUE.is("change(4, 1) behind the end", reader.change(4, 1), ImageReader.NONE);
        reader.feed(0x06070809, 0, 0, 0, 0);
        DUE.is("came(4) fed again", reader.came(4), 6);
        DUE.is("end(0)", reader.end(0), 24);
        DUE.is("end(0) again", reader.end(0), 0);
    }

    private static boolean endThrows(ImageReader reader, int n) {
        try {
            reader.end(n);
            return false;
        } catch (IllegalArgumentException e) {
            return true;
        }
    }

    private static void endRefuses() {
        ImageReader reader = new ImageReader();
        DUE.isTrue("empty: end(1) throws", endThrows(reader, 1));
        DUE.isTrue("empty: end(-1) throws", endThrows(reader, -1));
        reader.feed(1, 2, 3, 4, 5);
        DUE.isTrue("end(21) throws", endThrows(reader, 21));
        DUE.isTrue("end(-1) throws", endThrows(reader, -1));
        DUE.isTrue("end(MIN) throws", endThrows(reader, Integer.MIN_VALUE));
        DUE.isTrue("end(MAX) throws", endThrows(reader, Integer.MAX_VALUE));
        DUE.is("end(20) behind the refusals", reader.end(20), 20);
    }

    private static void changeSetsOneByte() {
        ImageReader reader = new ImageReader();
        reader.feed(0x010203ff, 0, 0, 0, 7);
        DUE.is("change(3, 0)", reader.change(3, 0), 255);
        DUE.is("change(3, 255)", reader.change(3, 255), 0);
        DUE.is("came(3)", reader.came(3), 255);
        DUE.is("change(19, 8)", reader.change(19, 8), 7);
        DUE.is("change(20, 8)", reader.change(20, 8), ImageReader.NONE);
        DUE.is("change(-1, 8)", reader.change(-1, 8), ImageReader.NONE);
        DUE.is("change(MIN, 8)", reader.change(Integer.MIN_VALUE, 8), ImageReader.NONE);
        DUE.is("change(0, -1)", reader.change(0, -1), ImageReader.NONE);
        DUE.is("change(0, 256)", reader.change(0, 256), ImageReader.NONE);
        DUE.is("came(0) behind the refusals", reader.came(0), 1);
        DUE.is("came(2)", reader.came(2), 3);
        DUE.is("came(19)", reader.came(19), 8);
        DUE.is("end(20) behind the changes", reader.end(20), 20);
    }

    private static void cameAnswersBytes() {
        ImageReader reader = new ImageReader();
        reader.feed(-2, 0, 0, 0, 0);
        DUE.is("came(0)", reader.came(0), 255);
        DUE.is("came(3)", reader.came(3), 254);
        DUE.is("came(-1)", reader.came(-1), ImageReader.NONE);
        DUE.is("came(20)", reader.came(20), ImageReader.NONE);
        DUE.is("came(MIN)", reader.came(Integer.MIN_VALUE), ImageReader.NONE);
        DUE.is("came(MAX)", reader.came(Integer.MAX_VALUE), ImageReader.NONE);
        reader.read();
        DUE.is("came(0) behind read", reader.came(0), ImageReader.NONE);
    }
}
