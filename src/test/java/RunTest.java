/** Whole runs of 512 calls of every sort, each answer compared with what the shadow answers. */
public final class RunTest {

    private static final Due DUE = new Due("RunTest");
    private static final int NONE = ImageReader.NONE;
    private static final Chance CHANCE = new Chance(20261116);
    private static final int RUNS = 1000;

    private static int taken;
    private static int refused;
    private static int alike;
    private static int different;

    private final Counted reader = new Counted();
    private final Shadow shadow = new Shadow();
    private final String name;

    private RunTest(int run) {
        name = "run " + run + ": ";
    }

    public static void main(String[] args) {
        for (int run = 0; run < RUNS; run++) {
            new RunTest(run).callsOfEverySort();
        }
        DUE.isTrue(taken + " images are taken, enough", taken > 10 * RUNS);
        DUE.isTrue(refused + " images are refused, enough", refused > 5 * RUNS);
        DUE.isTrue(alike + " pairs are the same, enough", alike > 2 * RUNS);
        DUE.isTrue(different + " pairs differ, enough", different > 2 * RUNS);
        DUE.end();
    }

    private void callsOfEverySort() {
        if (CHANCE.below(10) != 0) {
            feed(CHANCE.image().bytes());
            read();
        }
        while (reader.left() > 0) {
            call();
        }
    }

    private void feed(byte[] bytes) {
        for (int at = 0; at < bytes.length; at += 20) {
            int[] words = new int[5];
            for (int i = 0; i < 20; i++) {
                int b = at + i < bytes.length ? bytes[at + i] & 255 : 170;
                words[i / 4] = words[i / 4] << 8 | b;
            }
            feed(words);
        }
        end(bytes.length);
    }

    private void feed(int[] words) {
        boolean throwsIt = reader.feedThrows(words[0], words[1], words[2], words[3], words[4]);
        DUE.is(name + "feed() throws", throwsIt, false);
        shadow.feed(words);
    }

    private void end(int n) {
        if (shadow.endThrows(n)) {
            DUE.isTrue(name + "end(" + n + ") throws", reader.endThrows(n));
        } else {
            DUE.is(name + "end(" + n + ")", reader.end(n), shadow.end(n));
        }
    }

    private void read() {
        int place = shadow.read();
        taken += place == NONE ? 1 : 0;
        refused += place != NONE ? 1 : 0;
        DUE.is(name + "read()", reader.read(), place);
    }

    private void change(int i, int b) {
        DUE.is(name + "change(" + i + ", " + b + ")", reader.change(i, b), shadow.change(i, b));
    }

    /** Mostly the low byte of a special value or of something behind them. */
    private int placeToChange() {
        switch (CHANCE.below(4)) {
            case 0:
                return 11 + 4 * CHANCE.below(50);
            case 1:
                return 4 + CHANCE.below(2);
            case 2:
                return 208 + CHANCE.below(2200);
            default:
                return CHANCE.anyInt();
        }
    }

    private int byteToChangeTo() {
        return CHANCE.below(8) == 0 ? CHANCE.anyInt() : CHANCE.below(64);
    }

    private void same() {
        boolean want = shadow.same();
        boolean both = shadow.objects() != 0;
        alike += want ? 1 : 0;
        different += both && !want ? 1 : 0;
        DUE.is(name + "same()", reader.same(), want);
    }

    private void call() {
        int a = CHANCE.anyInt();
        int b = CHANCE.anyInt();
        switch (CHANCE.below(24)) {
            case 0:
                feed(new int[] {a, b, CHANCE.anyInt(), 0, -1});
                break;
            case 1:
                end(a);
                break;
            case 2: case 3: case 4:
                change(placeToChange(), byteToChangeTo());
                break;
            case 5: case 6:
                read();
                break;
            case 7: case 8: case 9:
                DUE.is(name + "write()", reader.write(), shadow.write());
                break;
            case 10:
                DUE.is(name + "keep()", reader.keep(), shadow.keep());
                break;
            case 11: case 12:
                same();
                break;
            case 13:
                DUE.is(name + "came(" + a + ")", reader.came(a), shadow.came(a));
                break;
            default:
                look(a, b);
        }
    }

    private void look(int a, int b) {
        int k = CHANCE.below(4) == 0 ? a : 1 + CHANCE.below(Model.SMALL_COUNT + 3);
        int i = CHANCE.below(4) == 0 ? b : CHANCE.below(12);
        switch (CHANCE.below(9)) {
            case 0:
                DUE.is(name + "objects()", reader.objects(), shadow.objects());
                break;
            case 1:
                DUE.is(name + "words()", reader.words(), shadow.words());
                break;
            case 2:
                DUE.is(name + "reachable()", reader.reachable(), shadow.reachable());
                break;
            case 3:
                DUE.is(name + "special(" + k + ")", reader.special(k), shadow.special(k));
                break;
            case 4:
                DUE.is(name + "kind(" + k + ")", reader.kind(k), shadow.kind(k));
                break;
            case 5:
                DUE.is(name + "classOf(" + k + ")", reader.classOf(k), shadow.classOf(k));
                break;
            case 6:
                DUE.is(name + "size(" + k + ")", reader.size(k), shadow.size(k));
                break;
            case 7:
                DUE.is(name + "field(" + k + ", " + i + ")", reader.field(k, i),
                    shadow.field(k, i));
                break;
            default:
                DUE.is(name + "byteAt(" + k + ", " + i + ")", reader.byteAt(k, i),
                    shadow.byteAt(k, i));
        }
    }
}
