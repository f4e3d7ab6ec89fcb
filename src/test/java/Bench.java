import java.util.Arrays;

/** What the tests by hand have in common: calls with the answers that are due, and a count of the wrong ones. */
abstract class Bench {
    static final String ARGUMENT = "throws.IllegalArgumentException";
    static final String STATE = "throws.IllegalStateException";
    static final String MISSING = "throws.NoSuchElementException";
    static final String UNSUPPORTED = "throws.UnsupportedOperationException";
    static final int LOW = Integer.MIN_VALUE;
    static final int HIGH = Integer.MAX_VALUE;
    static final long AGENT = 4294967296L;
    /** Behind so many calls the document leaves all answers free. */
    static final int CALLS = 512;

    private static int wrong = 0;
    private static int checks = 0;

    final Calls x;
    private final String name;

    Bench(Calls x, String name) {
        this.x = x;
        this.name = name;
    }

    static void finish(String what) {
        System.out.println(checks + " checks of " + what + ", " + wrong + " wrong");
        if (wrong > 0) {
            System.exit(1);
        }
    }

    void check(boolean good, String fault) {
        checks++;
        if (!good) {
            wrong++;
            System.out.println(name + ": " + fault);
        }
    }

    void due(String want, String call, int... args) {
        String got = x.call(call, args);
        check(got.equals(want), call + Arrays.toString(args) + " answered " + got + ", due is " + want);
    }

    void due(long want, String call, int... args) {
        due("" + want, call, args);
    }

    /** Says when a test has made more calls than the document promises answers for. */
    void withinCalls() {
        if (x instanceof Real real) {
            check(real.calls() <= CALLS, "made " + real.calls() + " calls");
        }
    }

    void feed(byte[] content) {
        Wire.feed(x, content);
    }

    void feed(String text) {
        Wire.feed(x, text);
    }

    void insert(int peer, int index, String text) {
        feed(text);
        due(text.codePointCount(0, text.length()), "insert", peer, index);
    }

    void text(int peer, String text) {
        int[] codes = text.codePoints().toArray();
        due(codes.length, "length", peer);
        for (int k = 0; k < codes.length; k++) {
            due(codes[k], "at", peer, k);
        }
    }

    void message(int slot, byte[] content) {
        due(content.length, "octet", slot, -1);
        for (int k = 0; k < content.length; k++) {
            due(content[k] & 255, "octet", slot, k);
        }
    }

    void load(String want, int fault, int peer, byte[] message) {
        feed(message);
        due(want, "load", peer);
        due(fault, "fault");
    }

    void load(int want, int peer, byte[] message) {
        load("" + want, 0, peer, message);
    }

    void hunk(int k, int... row) {
        for (int what = 0; what < 4; what++) {
            due(row[what], "hunk", k, what);
        }
    }
}
