import java.nio.charset.StandardCharsets;
import java.util.Arrays;
import java.util.Random;
import java.util.function.Consumer;

/** The limits that the document names, reached with few calls by patches that unpack to much. */
public final class LimitsTest extends Bench {
    private LimitsTest(String name) {
        super(new Real(), name);
    }

    public static void main(String[] args) {
        real("events by load", LimitsTest::fullByLoad);
        real("events by hand", LimitsTest::fullByHand);
        real("events by undo", LimitsTest::fullByUndo);
        real("full peer in sync", LimitsTest::fullInSync);
        real("agents", LimitsTest::agents);
        real("size of a patch", LimitsTest::patchSize);
        real("patch of 32768 bytes", t -> t.exactPatch(8185, "32768"));
        real("patch of 32772 bytes", t -> t.exactPatch(8186, STATE));
        real("whole patch", LimitsTest::largestText);
        real("4095 bytes back", t -> t.packingReach(4095));
        real("4096 bytes back", t -> t.packingReach(4096));
        real("many branches", LimitsTest::branches);
        real("many hunks", LimitsTest::manyHunks);
        finish("the limits");
    }

    /** All this is too much for the model. */
    private static void real(String name, Consumer<LimitsTest> test) {
        LimitsTest one = new LimitsTest(name);
        test.accept(one);
        one.withinCalls();
    }

    private void fullByLoad() {
        load("8192", 0, 0, Wire.run(9, 8192));
        due(8192, "length", 0);
        due(8192, "events", 0, 9);
        due(8192, "critical", 0);
        due(97, "at", 0, 8191);
        due(ARGUMENT, "at", 0, 8192);
        Wire.feed(x, "b");
        due(STATE, "insert", 0, 0);
        due(0, "insert", 0, 0);
        due(STATE, "delete", 0, 0, 1);
        due(MISSING, "undo", 0);
        int[] last = {0, 8191};
        load(STATE, 7, 0, Wire.patch(0, Wire.agents(9), Wire.plain("b"), new Wire.Span(0, 8192, 1, last, 0, 0)));
        load(STATE, 7, 0, Wire.patch(0, Wire.agents(7), Wire.plain("b"), new Wire.Span(0, 0, 1, new int[0], 0, 0)));
        // A wrong index is looked for ahead of the room.
        load(UNSUPPORTED, 6, 0,
            Wire.patch(0, Wire.agents(9), Wire.plain("b"), new Wire.Span(0, 8192, 1, last, 8193, 0)));
        load("0", 0, 0, Wire.patch(0, Wire.agents(9), Wire.plain("b"), new Wire.Span(0, 8191, 1, last, 0, 0)));
        due(8192, "events", 0, -1);
        due(8192, "mark", 0, 0);
        due(8192, "view", 0);
        due(97, "viewed", 8191);
        due(8192, "sync", 0, 1);
        due(8192, "sync", 1, 2);
        due(8192, "sync", 2, 3);
        due(8192, "length", 3);
    }

    private void fullByHand() {
        load("8189", 0, 0, Wire.run(9, 8189));
        Wire.feed(x, "bcde");
        due(STATE, "insert", 0, 0);
        due(8189, "events", 0, -1);
        due(STATE, "delete", 0, 0, 4);
        due(MISSING, "undo", 0);
        Wire.feed(x, "bc");
        due(2, "insert", 0, 0);
        due(STATE, "delete", 0, 0, 2);
        due(8190, "delete", 0, 0, 1);
        due(8192, "events", 0, -1);
        due(STATE, "delete", 0, 0, 1);
        // The calls that found no room are none; what is undone needs room, too, and is not undone without it.
        due(STATE, "undo", 0);
        due(STATE, "undo", 0);
        due(8190, "length", 0);
    }

    private void fullByUndo() {
        load("4000", 0, 0, Wire.run(9, 4000));
        due(1999, "delete", 0, 0, 2001);
        due(2001, "undo", 0);
        due(4000, "length", 0);
        due(8002, "events", 0, -1);
        due(MISSING, "undo", 0);
        due(3820, "delete", 0, 3000, 180);
        due(STATE, "undo", 0);
        due(8182, "events", 0, -1);
        due(8182, "mark", 1, 0);
        due(4294967296L * 9 + 3180, "blame", 0, 3000);
        due(2001, "blame", 0, 0);
    }

    private void fullInSync() {
        load("8190", 0, 1, Wire.run(9, 8190));
        Wire.feed(x, "wxyz");
        due(4, "insert", 0, 0);
        due(STATE, "sync", 0, 1);
        due(7, "fault");
        due(2, "events", 1, 0);
        due(8192, "length", 1);
        due(STATE, "sync", 0, 1);
        due(0, "sync", 0, 0);
        due(0, "fault");
    }

    private void agents() {
        int[] ids = new int[17];
        Wire.Span[] spans = new Wire.Span[17];
        for (int k = 0; k < 17; k++) {
            ids[k] = 4 + k;
            spans[k] = new Wire.Span(k, 0, 1, new int[0], k == 0 ? 0 : -1, 0);
        }
        byte[] text = Wire.plain("abcdefghijklmnopq");
        load(STATE, 7, 0, Wire.patch(0, Wire.agents(ids), text, spans));
        due(16, "events", 0, -1);
        due(1, "events", 0, 19);
        due(0, "events", 0, 20);
        due(4294967296L * 4, "head", 0, 0);
        due(4294967296L * 19, "head", 0, 15);
        due(MISSING, "head", 0, 16);
        due(0, "critical", 0);
        for (int k = 0; k < 16; k++) {
            due('a' + k, "at", 0, k);
        }
        Wire.feed(x, "z");
        due(STATE, "insert", 0, 0);
        due(0, "insert", 0, 0);
        due(STATE, "delete", 0, 0, 1);
        due(16, "length", 0);
        due(16, "sync", 0, 3);
        // One event with all sixteen heads as its parents, told in falling order.
        int[] parents = new int[32];
        for (int k = 0; k < 16; k++) {
            parents[2 * k] = 15 - k;
        }
        byte[] all = Wire.agents(Arrays.copyOf(ids, 16));
        load("1", 0, 0, Wire.patch(0, all, Wire.plain("!"), new Wire.Span(15, 1, 1, parents, 16, 0)));
        due(4294967296L * 19 + 1, "head", 0, 0);
        due(1, "critical", 0);
        due('!', "at", 0, 16);
        due(1, "sync", 0, 3);
        due(1, "related", 3, 4, 0, 19, 1);
    }

    /** Bytes by chance, as letters or as characters of four bytes. */
    private static byte[] noise(int size, int width, int seed) {
        Random chance = new Random(seed);
        byte[] out = new byte[size];
        for (int k = 0; k < size; k += width) {
            int code = width == 4 ? 0x10000 + chance.nextInt(0x100000) : 33 + chance.nextInt(90);
            byte[] symbol = new String(Character.toChars(code)).getBytes(StandardCharsets.UTF_8);
            System.arraycopy(symbol, 0, out, k, width);
        }
        return out;
    }

    /** A text that a patch may make by repeating from 4100 bytes back, but that a peer must write out. */
    private void patchSize() {
        byte[] text = Wire.join(Wire.varints(32768, 2 * 4100), noise(4100, 4, 1), Wire.varints(2 * 28668 + 1, 4100));
        load("8192", 0, 0, Wire.patch(2, Wire.agents(9), text, new Wire.Span(0, 0, 8192, new int[0], 0, 0)));
        load("0", 0, 0, Wire.message(2, 1, Wire.varints(1, 9, 8192)));
        due(14, "send", 0, 1, 3);
        due(STATE, "send", 0, -1, 3);
        due(14, "octet", 3, -1);
        load(ARGUMENT, 1, 0, Wire.bytes(1));
        due(STATE, "sync", 0, 1);
        due(0, "fault");
        due(0, "events", 1, -1);
        // The summary was taken all the same.
        due(STATE, "send", 0, 1, 3);
        due(14, "octet", 3, -1);
        due(0, "take", 1, 3);
    }

    /** A text without any repeat that a peer could use: its patch has 28 bytes more than the text. */
    private void exactPatch(int characters, String size) {
        int bytes = 4 * characters;
        byte[] base = noise(4100, 4, 1);
        for (int seed = 2; repeats(Wire.join(base, Arrays.copyOf(base, 4098))); seed++) {
            base = noise(4100, 4, seed);
        }
        byte[] text = Wire.join(Wire.varints(bytes, 2 * 4100), base, Wire.varints(2L * (bytes - 4100) + 1, 4100));
        load("" + characters, 0, 0,
            Wire.patch(2, Wire.agents(9), text, new Wire.Span(0, 0, characters, new int[0], 0, 0)));
        due(size, "send", 0, 1, 0);
        due(size.equals(STATE) ? STATE : "" + characters, "sync", 0, 1);
        due(0, "fault");
    }

    private void largestText() {
        byte[] text = Wire.join(Wire.varints(32768, 8), "😀".getBytes(StandardCharsets.UTF_8),
            Wire.varints(2 * 32764 + 1, 4));
        load("8192", 0, 0, Wire.patch(2, Wire.agents(9), text, new Wire.Span(0, 0, 8192, new int[0], 0, 0)));
        due(128512, "at", 0, 8191);
        due(8192, "sync", 0, 1);
        due(128512, "at", 1, 8191);
    }

    /** Whether four bytes come again within the reach of packing. */
    private static boolean repeats(byte[] text) {
        String all = new String(text, StandardCharsets.ISO_8859_1);
        for (int k = 0; k + 4 <= text.length; k++) {
            int again = all.indexOf(all.substring(k, k + 4), k + 1);
            if (again > 0 && again - k <= 4095) {
                return true;
            }
        }
        return false;
    }

    private static byte[] unlike(int size) {
        int seed = 1;
        while (repeats(noise(size, 1, seed))) {
            seed++;
        }
        return noise(size, 1, seed);
    }

    /** Text that comes again 4095 bytes back is packed, 4096 bytes back it is not. */
    private void packingReach(int back) {
        byte[] base = unlike(back);
        byte[] text = Wire.join(base, Arrays.copyOf(base, 100));
        Wire.feed(x, text);
        due(text.length, "insert", 0, 0);
        byte[] packed = Wire.plain(text);
        if (back <= 4095) {
            packed = Wire.join(Wire.varints(text.length, 2L * back), base,
                Wire.varints(2 * 64 + 1, back, 2 * 36 + 1, back));
        }
        byte[] patch = Wire.patch(0, Wire.agents(0), packed, new Wire.Span(0, 0, text.length, new int[0], 0, 0));
        due(patch.length, "send", 0, -1, 0);
        for (int k = patch.length - 120; k < patch.length; k++) {
            due(patch[k] & 255, "octet", 0, k);
        }
        due(text.length, "take", 1, 0);
        for (int k = back - 5; k < back + 100; k++) {
            due(text[k] & 255, "at", 1, k);
        }
    }

    /** Two agents write a thousand characters by turns, neither knowing of the other's. */
    private void branches() {
        load("6000", 0, 0, Wire.run(9, 6000));
        Wire.Span[] spans = new Wire.Span[1000];
        int expected = 0;
        for (int k = 0; k < spans.length; k++) {
            int[] parents = k < 2 ? new int[] {2, 5999} : new int[] {k % 2, k / 2 - 1};
            spans[k] = new Wire.Span(k % 2, k / 2, 1, parents, 6000 - expected, 0);
            expected = 6001;
        }
        load("1000", 0, 0, Wire.patch(0, Wire.agents(10, 11, 9), Wire.letters(1000), spans));
        due(7000, "length", 0);
        due(6000, "critical", 0);
        due(10 * 4294967296L + 499, "head", 0, 0);
        due(11 * 4294967296L + 499, "head", 0, 1);
        due(3, "related", 0, 10, 0, 11, 499);
        for (int p = 1; p < 4; p++) {
            due(7000, "sync", 0, p);
            // Each one's characters stand together, the latest first.
            due(10 * 4294967296L + 499, "blame", p, 6000);
            due(10 * 4294967296L, "blame", p, 6499);
            due(11 * 4294967296L + 499, "blame", p, 6500);
            due(11 * 4294967296L, "blame", p, 6999);
        }
    }

    /** Every second one of 2000 characters is deleted: as many hunks, each with its own place. */
    private void manyHunks() {
        load("2000", 0, 0, Wire.run(9, 2000));
        due(2000, "mark", 0, 0);
        Wire.Span[] spans = new Wire.Span[1000];
        for (int k = 0; k < spans.length; k++) {
            spans[k] = new Wire.Span(0, 2000 + k, 1, k == 0 ? new int[] {0, 1999} : null, k == 0 ? 0 : 1, 1);
        }
        load("1000", 0, 0, Wire.patch(0, Wire.agents(9), Wire.plain(""), spans));
        due(3000, "mark", 1, 0);
        due(1000, "view", 1);
        due(1000, "differ", 0, 1);
        for (int k : new int[] {0, 1, 500, 998, 999}) {
            hunk(k, 2 * k, 1, k, 0);
        }
        due(MISSING, "hunk", 1000, 0);
        due(1000, "differ", 1, 0);
        for (int k : new int[] {0, 1, 500, 998, 999}) {
            hunk(k, k, 0, 2 * k, 1);
        }
        due(2000, "view", 0);
        due(97, "viewed", 1999);
        due(ARGUMENT, "viewed", 2000);
    }
}
