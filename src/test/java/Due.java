/** Counts the answers of one test that are not as due, and ends the program by them. */
final class Due {

    private static final int NONE = ImageReader.NONE;
    private static final long MOST_MILLISECONDS = 300_000;

    private final String test;
    private int asked;
    private int wrong;

    Due(String test) {
        this.test = test;
        Thread watch = new Thread(this::failWhenLate);
        watch.setDaemon(true);
        watch.start();
    }

    /** A call that does not end is a wrong answer too; a test takes some seconds otherwise. */
    private void failWhenLate() {
        try {
            Thread.sleep(MOST_MILLISECONDS);
        } catch (InterruptedException woken) {
            return;
        }
        System.out.println(test + ": a call does not end");
        Runtime.getRuntime().halt(1);
    }

    void is(String call, long got, long want) {
        asked++;
        if (got != want) {
            wrong++;
            System.out.println(test + ": " + call + " answered " + got + ", due is " + want);
        }
    }

    void is(String call, boolean got, boolean want) {
        is(call, got ? 1 : 0, want ? 1 : 0);
    }

    void isTrue(String what, boolean got) {
        is(what, got, true);
    }

    void isText(String what, String got, String want) {
        isTrue(what + " is as due", got.equals(want));
    }

    /** A new object reads the bytes, and answers the place, or NONE when they are well formed. */
    void reads(String what, byte[] bytes, int place) {
        Counted reader = new Counted().feed(bytes);
        is(what + ": read()", reader.read(), place);
        is(what + ": came(0) behind read()", reader.came(0), NONE);
        isTrue(what + ": objects() behind read()", reader.objects() == 0 == (place != NONE));
        is(what + ": the oracle's place", new Oracle(bytes).place(), place);
    }

    void reads(String what, Model model, int place) {
        reads(what, model.bytes(), place);
    }

    void isWell(String what, Model model) {
        reads(what, model, NONE);
    }

    /** Well formed, or else refused at the place. */
    void isWellIf(boolean well, String what, Model model, int place) {
        reads(what, model, well ? NONE : place);
    }

    void end() {
        System.out.println(test + ": " + asked + " answers, " + wrong + " not as due");
        if (wrong != 0) {
            System.exit(1);
        }
    }
}
