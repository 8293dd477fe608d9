/**
 * An ImageReader that counts its calls. What one answers behind its 512th call is free, so a test
 * that asks for more is itself wrong, but for those that say why they must.
 */
final class Counted {

    static final int MOST_CALLS = 512;
    static final int NONE = ImageReader.NONE;

    private final ImageReader reader = new ImageReader();
    private int left;

    Counted() {
        this(MOST_CALLS);
    }

    Counted(int mostCalls) {
        left = mostCalls;
    }

    int left() {
        return left;
    }

    private ImageReader used() {
        if (left == 0) {
            throw new AssertionError("a test puts more calls to an object than are promised");
        }
        left--;
        return reader;
    }

    void feed(int a, int b, int c, int d, int e) {
        used().feed(a, b, c, d, e);
    }

    /** Whether feed throws the document's exception and no other. */
    boolean feedThrows(int a, int b, int c, int d, int e) {
        try {
            used().feed(a, b, c, d, e);
            return false;
        } catch (IllegalStateException thrown) {
            return thrown.getClass() == IllegalStateException.class;
        }
    }

    int end(int n) {
        return used().end(n);
    }

    /** Whether end throws the document's exception and no other. */
    boolean endThrows(int n) {
        try {
            used().end(n);
            return false;
        } catch (IllegalArgumentException thrown) {
            return thrown.getClass() == IllegalArgumentException.class;
        }
    }

    int change(int i, int b) {
        return used().change(i, b);
    }

    int read() {
        return used().read();
    }

    int objects() {
        return used().objects();
    }

    int words() {
        return used().words();
    }

    int special(int k) {
        return used().special(k);
    }

    int kind(int k) {
        return used().kind(k);
    }

    int classOf(int k) {
        return used().classOf(k);
    }

    int size(int k) {
        return used().size(k);
    }

    int field(int k, int i) {
        return used().field(k, i);
    }

    int byteAt(int k, int i) {
        return used().byteAt(k, i);
    }

    int reachable() {
        return used().reachable();
    }

    int write() {
        return used().write();
    }

    int came(int i) {
        return used().came(i);
    }

    boolean keep() {
        return used().keep();
    }

    boolean same() {
        return used().same();
    }

    /** Twenty bytes a call; what the last call brings beyond the bytes is cut off by end. */
    Counted feed(byte[] bytes) {
        int[] words = new int[5];
        for (int at = 0; at < bytes.length; at += 20) {
            for (int i = 0; i < 5; i++) {
                words[i] = 0;
                for (int j = at + 4 * i; j < at + 4 * i + 4; j++) {
                    words[i] = (words[i] << 8) | (j < bytes.length ? bytes[j] & 255 : 170);
                }
            }
            feed(words[0], words[1], words[2], words[3], words[4]);
        }
        end(bytes.length);
        return this;
    }

    int read(Model model) {
        feed(model.bytes());
        return read();
    }

    /** An object with the image at hand; a test that hands over an ill one is itself wrong. */
    static Counted with(Model model) {
        Counted reader = new Counted();
        if (reader.read(model) != NONE) {
            throw new AssertionError("an image that should be well formed is refused");
        }
        return reader;
    }
}
