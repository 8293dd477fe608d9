import java.util.Arrays;

/** Images changed here and there, always the same ones, and what the oracle says of them. */
public final class ChanceTest {

    private static final Due DUE = new Due("ChanceTest");
    private static final int NONE = ImageReader.NONE;
    private static final Chance CHANCE = new Chance(20261115);

    private static int wellFormed;
    private static int alike;

    public static void main(String[] args) {
        for (int i = 0; i < 12000; i++) {
            places(i);
        }
        DUE.isTrue("enough images are well formed", wellFormed > 2000);
        DUE.isTrue("enough images are refused", wellFormed < 10000);
        for (int i = 0; i < 3000; i++) {
            comparisons(i);
        }
        DUE.isTrue("enough images are the same", alike > 600);
        DUE.isTrue("enough images differ", alike < 2400);
        DUE.end();
    }

    private static void places(int run) {
        Model model = CHANCE.image();
        for (int i = CHANCE.below(4); i > 0; i--) {
            CHANCE.alter(model);
        }
        byte[] bytes = CHANCE.alterBytes(model.bytes());
        Oracle oracle = new Oracle(bytes);
        int want = oracle.place();
        Counted reader = new Counted().feed(bytes);
        DUE.is("image " + run + ": read()", reader.read(), want);
        if (want != NONE) {
            DUE.is("image " + run + ": objects()", reader.objects(), 0);
            return;
        }
        wellFormed++;
        DUE.is("image " + run + ": words()", reader.words(), oracle.words());
        DUE.is("image " + run + ": reachable()", reader.reachable(), oracle.reachable());
        written(run, reader, oracle, bytes);
    }

    private static void written(int run, Counted reader, Oracle oracle, byte[] bytes) {
        reader.keep();
        DUE.isTrue("image " + run + ": write()", reader.write() > 0);
        Asker asker = new Asker(() -> {
            Counted another = new Counted().feed(bytes);
            another.read();
            another.write();
            return another;
        });
        byte[] got = asker.came();
        Oracle after = new Oracle(got);
        DUE.isTrue("image " + run + " written: bytes", Arrays.equals(got, oracle.written()));
        DUE.is("image " + run + " written: place", after.place(), NONE);
        DUE.isTrue("image " + run + " written: text", after.canonical().equals(oracle.canonical()));
        DUE.is("image " + run + " written: read()", reader.read(), NONE);
        DUE.is("image " + run + " written: same()", reader.same(), true);
        DUE.is("image " + run + " written: objects()", reader.objects(), oracle.reachable());
    }

    private static void comparisons(int run) {
        Model one = CHANCE.image();
        Model two = CHANCE.shuffled(one);
        if (CHANCE.below(2) == 0) {
            CHANCE.alter(two);
        }
        Counted reader = new Counted();
        Oracle first = new Oracle(one.bytes());
        Oracle second = new Oracle(two.bytes());
        if (first.place() != NONE || second.place() != NONE) {
            return;
        }
        DUE.is("pair " + run + ": read()", reader.read(one), NONE);
        reader.keep();
        DUE.is("pair " + run + ": read()", reader.read(two), NONE);
        boolean want = first.canonical().equals(second.canonical());
        alike += want ? 1 : 0;
        DUE.is("pair " + run + ": same()", reader.same(), want);
    }
}
