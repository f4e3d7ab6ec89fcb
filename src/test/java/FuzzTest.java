import java.nio.charset.StandardCharsets;
import java.util.ArrayList;
import java.util.Arrays;
import java.util.Collections;
import java.util.List;
import java.util.Random;

/** Runs of calls by chance, the same each time: the program must answer as the plain model does. */
public final class FuzzTest {
    private static final String[] WORDS = {
        "a", "b", "abc", "abcabcabc", "\n", "one\ntwo\n", "é", "中文", "😀", "xyxyxyxyxyxyxy", "\0", "the weave ",
        "aaaaaaaaaaaaaaaaaaaaaaaaaaaaaaaaaaaaaaaaaaaaaaaaaaaaaaaaaaaaaaaaaaaaaaaaaaaaaaaaaaa", "\uffff", "\u07ff\u0800"
    };
    private static final byte[][] NO_TEXTS = {
        Wire.bytes(128), Wire.bytes(0xc0, 0x80), Wire.bytes(0xc1, 0xbf), Wire.bytes(0xe0, 0x9f, 0xbf),
        Wire.bytes(0xed, 0xa0, 0x80), Wire.bytes(0xed, 0xbf, 0xbf), Wire.bytes(0xf0, 0x8f, 0xbf, 0xbf),
        Wire.bytes(0xf4, 0x90, 0x80, 0x80), Wire.bytes(0xf5, 0x80, 0x80, 0x80), Wire.bytes(0xff), Wire.bytes(0xe4, 0xb8),
        Wire.bytes(97, 0xf0, 0x9f, 0x98), Wire.bytes(0xc3, 97), Wire.bytes(0xfe, 0x80), Wire.bytes(0xf8, 0x88, 0x80, 0x80, 0x80)
    };
    private static final int[] POOL = {0, 1, 2, 3, 4, 9, 255};
    /** What a run may use up before it looks at what has become of the peers. */
    private static final int CALLS_TO_WRITE = 320;
    private static final int SAMPLE = 8;

    private final Random chance;
    private final int seed;
    private final Model model = new Model();
    private final Real real = new Real();
    private final List<String> log = new ArrayList<>();
    private final Calls both = this::call;
    private boolean failed = false;

    private FuzzTest(int seed) {
        this.seed = seed;
        chance = new Random(seed);
    }

    public static void main(String[] args) {
        int runs = args.length > 0 ? Integer.parseInt(args[0]) : 600;
        int from = args.length > 1 ? Integer.parseInt(args[1]) : 0;
        int wrong = 0;
        for (int seed = from; seed < from + runs && wrong < 5; seed++) {
            FuzzTest test = new FuzzTest(seed);
            test.run(seed % 3);
            wrong += test.failed ? 1 : 0;
        }
        System.out.println(runs + " runs by chance, " + wrong + " of them wrong");
        if (wrong > 0) {
            System.exit(1);
        }
    }

    /** The model answers alone where the document leaves the answers free. */
    private String call(String name, int... args) {
        String due = model.call(name, args);
        if (real.calls() == Bench.CALLS) {
            return due;
        }
        String got = real.call(name, args);
        log.add(name + Arrays.toString(args) + " = " + due);
        if (!due.equals(got) && !failed) {
            failed = true;
            System.out.println("seed " + seed + ": " + name + Arrays.toString(args) + " answered " + got + ", due is "
                + due);
            for (String line : log.subList(Math.max(0, log.size() - 12), log.size())) {
                System.out.println("    " + line);
            }
        }
        return due;
    }

    private void run(int flavour) {
        int last = CALLS_TO_WRITE - chance.nextInt(200);
        while (real.calls() < last && !failed) {
            int pick = chance.nextInt(100);
            if (flavour == 1 && pick < 25) {
                loadPatch();
            } else if (flavour == 2 && pick < 25) {
                spoil();
            } else if (pick < 35) {
                meet();
            } else if (pick < 60) {
                write();
            } else if (pick < 80) {
                exchange();
            } else {
                for (int j = 0; j < 5; j++) {
                    ask();
                }
            }
        }
        for (int p = 0; p < 4 && !failed; p++) {
            look(p);
        }
        for (int b = 0; b < 3 && !failed; b++) {
            view(b);
        }
    }

    private int peer() {
        return chance.nextInt(40) == 0 ? chance.nextInt(2) * 5 - 1 : chance.nextInt(4);
    }

    private int upTo(int most) {
        return chance.nextInt(20) == 0 ? chance.nextInt(most + 4) - 2 : chance.nextInt(most + 1);
    }

    /** Mostly one of three, so that what is put there is met again; seldom one that is empty, or none at all. */
    private int few() {
        int pick = chance.nextInt(40);
        return pick == 0 ? chance.nextInt(2) * 9 - 1 : pick < 3 ? 3 + chance.nextInt(5) : chance.nextInt(3);
    }

    /** Places of a row of n, and one beyond each end; of a long row a few, so that a run does not use up its calls. */
    private int[] places(int n) {
        int[] row = new int[Math.min(n, SAMPLE) + 2];
        for (int k = 0; k < row.length; k++) {
            row[k] = n <= SAMPLE ? k - 1 : k == 0 ? -1 : k == 1 ? n : chance.nextInt(n);
        }
        return row;
    }

    private static int sizeOf(String answer, int otherwise) {
        return answer.startsWith("t") ? otherwise : Integer.parseInt(answer);
    }

    private int length(int peer) {
        return peer < 0 || peer > 3 ? 3 : model.length(peer);
    }

    private int count(int peer, int agent) {
        return peer < 0 || peer > 3 ? 3 : model.count(peer, agent);
    }

    private void tape() {
        int pick = chance.nextInt(30);
        if (pick == 0) {
            Wire.feed(both, NO_TEXTS[chance.nextInt(NO_TEXTS.length)]);
        } else if (pick > 1) {
            Wire.feed(both, WORDS[chance.nextInt(WORDS.length)]);
        }
    }

    private void write() {
        int p = peer();
        int pick = chance.nextInt(10);
        if (pick < 6) {
            tape();
            call("insert", p, upTo(length(p)));
        } else if (pick < 8) {
            call("delete", p, upTo(length(p)), 1 + upTo(4));
        } else {
            call("undo", p);
        }
        call("length", p);
    }

    /** Two peers that know the same write at one place, neither knowing of the other's; then one hears of it. */
    private void meet() {
        int p = chance.nextInt(4);
        int q = (p + 1 + chance.nextInt(3)) % 4;
        call("sync", p, q);
        call("sync", q, p);
        int at = chance.nextInt(Math.min(6, length(p)) + 1);
        writeAt(p, at);
        if (chance.nextInt(3) == 0) {
            call("mark", few(), q);
        }
        writeAt(q, at);
        call("mark", few(), q);
        call("sync", p, q);
        if (chance.nextBoolean()) {
            call("undo", chance.nextBoolean() ? p : q);
        }
    }

    private void writeAt(int p, int at) {
        int most = Math.min(3, length(p) - at);
        if (most > 0 && chance.nextInt(3) > 0) {
            call("delete", p, at, 1 + chance.nextInt(most));
        } else {
            tape();
            call("insert", p, at);
        }
    }

    private void exchange() {
        switch (chance.nextInt(8)) {
            case 0: call("announce", peer(), few()); break;
            case 1: call("send", peer(), chance.nextInt(6) - 1, few()); break;
            case 2:
            case 3: call("take", peer(), few()); break;
            case 4: readSlot(few()); break;
            default: call("sync", peer(), peer());
        }
        call("fault");
    }

    /** The checksum at the end tells of every other byte, too. */
    private void readSlot(int slot) {
        int n = sizeOf(call("octet", slot, -1), 3);
        for (int k = n - 4; k < n; k++) {
            call("octet", slot, k);
        }
        for (int k : places(n)) {
            call("octet", slot, k);
        }
    }

    private void ask() {
        int p = peer();
        switch (chance.nextInt(12)) {
            case 0: call("line", p, chance.nextInt(8) - 2); break;
            case 1: tape(); call("find", p, upTo(length(p))); break;
            case 2: call("blame", p, upTo(length(p))); break;
            case 3: call("events", p, chance.nextInt(8) - 2); call("events", p, 255 + chance.nextInt(2)); break;
            case 4: call("head", p, chance.nextInt(5) - 1); call("critical", p); break;
            case 5: call("mark", few(), chance.nextInt(3) == 0 ? p : seed & 3); break;
            case 6: view(few()); break;
            case 7: differ(few(), few()); break;
            case 8: call("anchor", few(), p, upTo(length(p))); break;
            case 9: call("place", few()); call("crossed"); break;
            default: relate(p);
        }
    }

    private void relate(int p) {
        for (int k = 0; k < 6; k++) {
            int one = chance.nextInt(4);
            int two = chance.nextInt(4);
            call("related", p, one, upTo(Math.max(0, count(p, one) - 1)), two,
                upTo(Math.max(0, count(p, two) - 1)));
        }
        call("related", p, -1, 0, 0, 0);
        call("related", p, 0, 0, 256, 0);
    }

    private void view(int b) {
        for (int k : places(sizeOf(call("view", b), 2))) {
            call("viewed", k);
        }
    }

    private void differ(int b, int c) {
        for (int k : places(sizeOf(call("differ", b, c), 1))) {
            for (int what = 0; what < 4; what++) {
                call("hunk", k, what);
            }
        }
        call("hunk", -1, 4);
    }

    private void look(int p) {
        for (int k : places(model.length(p))) {
            call("at", p, k);
            call("blame", p, k);
        }
        for (int k = 0; k < 4; k++) {
            call("head", p, k);
        }
        call("critical", p);
        call("crossed");
        call("send", p, -1, p);
        readSlot(p);
    }

    private void spoil() {
        int slot = few();
        int pick = chance.nextInt(4);
        byte[] message = slot < 0 || slot > 7 ? null : model.slot(slot);
        if (message == null && chance.nextInt(4) > 0) {
            if (chance.nextInt(3) == 0) {
                call("announce", chance.nextInt(4), slot);
            } else {
                call("send", chance.nextInt(4), -1, slot);
            }
        } else if (pick == 0 || message == null) {
            call("alter", slot, upTo(message == null ? 0 : message.length), upTo(255));
            call("take", peer(), slot);
        } else {
            // A byte of the message is another one, but the checksum is right.
            byte[] body = Arrays.copyOf(message, message.length - 4);
            for (int k = 0; k < pick; k++) {
                int at = chance.nextInt(body.length);
                body[at] = (byte) (chance.nextBoolean() ? chance.nextInt(256) : body[at] + chance.nextInt(3) - 1);
            }
            Wire.feed(both, Wire.seal(body));
            call("load", peer());
        }
        call("fault");
    }

    private void loadPatch() {
        int p = chance.nextInt(4);
        int[] agents = POOL.clone();
        for (int k = 0; k < agents.length; k++) {
            int j = chance.nextInt(agents.length);
            int agent = agents[k];
            agents[k] = agents[j];
            agents[j] = agent;
        }
        int[] counts = new int[256];
        for (int agent : agents) {
            counts[agent] = model.count(p, agent);
        }
        List<Wire.Span> spans = new ArrayList<>();
        StringBuilder text = new StringBuilder();
        int expected = 0;
        int length = model.length(p);
        for (int n = 1 + chance.nextInt(4); n > 0; n--) {
            int place = chance.nextInt(agents.length);
            int number = counts[agents[place]] + (chance.nextInt(8) == 0 ? chance.nextInt(4) - 2 : 0);
            int size = 1 + chance.nextInt(4);
            int kind = chance.nextInt(5) % 3;
            int index = chance.nextInt(Math.max(1, length / 2) + 1) + (kind == 2 ? size - 1 : 0);
            int[] parents = parents(p, agents, counts, place, spans.isEmpty());
            spans.add(new Wire.Span(place, Math.max(0, number), size, parents, index - expected, kind));
            expected = index + (kind == 0 ? size : kind == 1 ? 0 : -size);
            counts[agents[place]] = Math.max(counts[agents[place]], number + size);
            if (kind == 0) {
                text.append("pqrstuvw", 0, size);
            }
        }
        if (chance.nextInt(30) == 0) {
            text.append("!");
        }
        byte[] packed = Wire.plain(text.toString().getBytes(StandardCharsets.UTF_8));
        Wire.feed(both, Wire.patch(chance.nextInt(4), Wire.agents(agents), packed, spans.toArray(new Wire.Span[0])));
        call("load", p);
        call("fault");
        call("events", p, -1);
    }

    private int[] parents(int p, int[] agents, int[] counts, int place, boolean first) {
        int pick = chance.nextInt(10);
        if (pick < 5) {
            return first ? heads(p, agents) : null;
        }
        List<Integer> places = new ArrayList<>();
        if (counts[agents[place]] > 0) {
            places.add(place);
        }
        for (int k = 0; k < agents.length; k++) {
            if (pick == 9 && k != place && counts[agents[k]] > 0 && chance.nextInt(4) == 0) {
                places.add(k);
            }
        }
        Collections.shuffle(places, chance);
        int[] pairs = new int[2 * places.size()];
        for (int k = 0; k < places.size(); k++) {
            int most = counts[agents[places.get(k)]];
            pairs[2 * k] = places.get(k);
            pairs[2 * k + 1] = chance.nextInt(9) == 0 ? chance.nextInt(most + 1) : most - 1;
        }
        return pairs;
    }

    private int[] heads(int p, int[] agents) {
        List<Long> ids = new ArrayList<>(model.heads(p));
        Collections.shuffle(ids, chance);
        int[] pairs = new int[2 * ids.size()];
        for (int k = 0; k < ids.size(); k++) {
            pairs[2 * k] = Arrays.stream(agents).boxed().toList().indexOf((int) (ids.get(k) >> 32));
            pairs[2 * k + 1] = ids.get(k).intValue();
            if (pairs[2 * k] < 0) {
                return new int[0];
            }
        }
        return pairs;
    }
}
