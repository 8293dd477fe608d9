/** The example of README.md, which shows these lines word for word. */
final class Example {

    private Example() {
    }

    /** Feeds an image, twenty bytes a call; end cuts off what the last call brings too much. */
    static int readAll(ImageReader reader, byte[] image) {
        for (int at = 0; at < image.length; at += 20) {
            reader.feed(word(image, at), word(image, at + 4), word(image, at + 8),
                word(image, at + 12), word(image, at + 16));
        }
        reader.end(image.length);
        return reader.read();
    }

    static int word(byte[] image, int at) {
        int word = 0;
        for (int i = at; i < at + 4; i++) {
            word = word << 8 | (i < image.length ? image[i] & 255 : 0);
        }
        return word;
    }

    static String told(byte[] image) {
        ImageReader reader = new ImageReader();
        int place = readAll(reader, image);
        if (place != ImageReader.NONE) {
            return "refused at byte " + place;
        }
        int all = reader.objects();
        reader.keep();                      // remembers the image
        reader.write();                     // its reachable objects are the bytes that came in
        reader.read();                      // and now the image at hand
        return reader.objects() + " of " + all + " objects are reachable; the same: "
            + reader.same();
    }
}
