import java.util.NoSuchElementException;

/** What the tests share: feeding texts, and telling each answer that is not due. */
final class Checks {
    private int made = 0;
    private int wrong = 0;

    void due(String call, long got, long want) {
        made++;
        if (got != want) {
            wrong++;
            System.out.println(call + " answered " + got + ", due is " + want);
        }
    }

    void due(String call, boolean got, boolean want) {
        due(call, got ? 1 : 0, want ? 1 : 0);
    }

    void due(String call, String got, String want) {
        made++;
        if (!got.equals(want)) {
            wrong++;
            System.out.println(call + " answered " + got + ", due is " + want);
        }
    }

    void refused(PondRoofs x, int pond, int what) {
        made++;
        try {
            int got = x.pond(pond, what);
            wrong++;
            System.out.println("pond(" + pond + ", " + what + ") answered " + got + ", due is an exception");
        } catch (NoSuchElementException e) {
            return;
        }
    }

    void finish() {
        System.out.println(wrong == 0 ? made + " answers are as due" : wrong + " answers are not as due");
        if (wrong != 0) {
            System.exit(1);
        }
    }

    /** Puts a text on the tape instead of what is there. */
    static void tape(PondRoofs x, String text) {
        x.end(0);
        int[] words = new int[5];
        for (int from = 0; from < text.length(); from += 20) {
            for (int w = 0; w < 5; w++) {
                words[w] = 0;
                for (int i = 0; i < 4; i++) {
                    int at = from + 4 * w + i;
                    words[w] = words[w] << 8 | (at < text.length() ? text.charAt(at) : 0);
                }
            }
            x.feed(words[0], words[1], words[2], words[3], words[4]);
        }
    }

    static int text(PondRoofs x, int sort, String text) {
        tape(x, text);
        return x.text(sort);
    }

    static int fault(int sort, String text) {
        PondRoofs x = new PondRoofs();
        tape(x, text);
        return x.fault(sort);
    }

    static PondRoofs town(String text) {
        PondRoofs x = new PondRoofs();
        if (text(x, 0, text) < 1) {
            throw new IllegalStateException("no town: " + text);
        }
        return x;
    }
}
