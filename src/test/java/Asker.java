import java.io.ByteArrayOutputStream;
import java.util.function.Supplier;
import java.util.function.ToIntFunction;

/**
 * Puts any number of questions to a state: to objects that are all brought to it by the same
 * calls, as many of them as the 512 calls of each ask for. A question must change nothing.
 */
final class Asker {

    private static final int NONE = ImageReader.NONE;
    private static final int MOST_BYTES = 65536;

    private final Supplier<Counted> calls;
    private Counted reader;

    Asker(Supplier<Counted> calls) {
        this.calls = calls;
    }

    int ask(ToIntFunction<Counted> question) {
        if (reader == null || reader.left() == 0) {
            reader = calls.get();
        }
        return question.applyAsInt(reader);
    }

    /** The bytes that came in. */
    byte[] came() {
        ByteArrayOutputStream out = new ByteArrayOutputStream();
        for (int i = 0; i <= MOST_BYTES; i++) {
            int at = i;
            int b = ask(reader -> reader.came(at));
            if (b == NONE) {
                return out.toByteArray();
            }
            out.write(b);
        }
        throw new AssertionError("there are more than 65536 bytes");
    }

    /** All that can be told of a state: the bytes, the image at hand and how it compares. */
    String state() {
        StringBuilder text = new StringBuilder();
        for (byte b : came()) {
            text.append(b).append(' ');
        }
        int objects = ask(Counted::objects);
        text.append("\n").append(objects).append(' ').append(ask(Counted::words));
        text.append(' ').append(ask(Counted::reachable));
        text.append(' ').append(ask(reader -> reader.same() ? 1 : 0)).append("\n");
        for (int k = 0; k < 50; k++) {
            int special = k;
            text.append(ask(reader -> reader.special(special))).append(' ');
        }
        for (int k = 1; k <= objects; k++) {
            text.append("\n").append(object(k));
        }
        return text.toString();
    }

    private String object(int k) {
        StringBuilder text = new StringBuilder();
        text.append(ask(reader -> reader.classOf(k))).append(' ');
        text.append(ask(reader -> reader.kind(k))).append(' ');
        int size = ask(reader -> reader.size(k));
        for (int i = 0; i < size; i++) {
            int part = i;
            text.append(' ').append(ask(reader -> reader.field(k, part)));
            text.append('/').append(ask(reader -> reader.byteAt(k, part)));
        }
        return text.toString();
    }
}
