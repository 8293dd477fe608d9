import java.util.Arrays;

/** What an ImageReader answers, worked out by the oracle alone, call by call. */
final class Shadow {

    private static final int NONE = -1;

    private byte[] bytes = new byte[0];
    private Oracle hand;
    private Oracle kept;

    void feed(int... words) {
        int at = bytes.length;
        bytes = Arrays.copyOf(bytes, at + 20);
        for (int word : words) {
            for (int shift = 24; shift >= 0; shift -= 8) {
                bytes[at++] = (byte) (word >>> shift);
            }
        }
    }

    boolean endThrows(int n) {
        return n < 0 || n > bytes.length;
    }

    int end(int n) {
        int before = bytes.length;
        bytes = Arrays.copyOf(bytes, n);
        return before;
    }

    int change(int i, int b) {
        int before = came(i);
        if (before == NONE || b < 0 || b > 255) {
            return NONE;
        }
        bytes[i] = (byte) b;
        return before;
    }

    int read() {
        Oracle next = new Oracle(bytes);
        int place = next.place();
        bytes = new byte[0];
        if (place == NONE) {
            hand = next;
        }
        return place;
    }

    int objects() {
        return hand == null ? 0 : hand.objects();
    }

    int words() {
        return hand == null ? 0 : hand.words();
    }

    int special(int k) {
        return hand == null ? 0 : hand.specialAt(k);
    }

    int kind(int k) {
        return hand == null ? NONE : hand.kind(k);
    }

    int classOf(int k) {
        return hand == null ? 0 : hand.classOf(k);
    }

    int size(int k) {
        return hand == null ? NONE : hand.size(k);
    }

    int field(int k, int i) {
        return hand == null ? 0 : hand.field(k, i);
    }

    int byteAt(int k, int i) {
        return hand == null ? NONE : hand.byteAt(k, i);
    }

    int reachable() {
        return hand == null ? 0 : hand.reachable();
    }

    int write() {
        if (hand == null) {
            return NONE;
        }
        bytes = hand.written();
        return bytes.length;
    }

    int came(int i) {
        return i < 0 || i >= bytes.length ? NONE : bytes[i] & 255;
    }

    boolean keep() {
        kept = hand == null ? kept : hand;
        return hand != null;
    }

    boolean same() {
        return hand != null && kept != null && hand.canonical().equals(kept.canonical());
    }
}
