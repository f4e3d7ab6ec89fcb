import java.io.ByteArrayOutputStream;
import java.util.ArrayList;
import java.util.List;
import java.util.zip.CRC32;

/** Writes messages byte by byte, right or wrong ones, for tests. */
final class Wire {
    private Wire() {
    }

    /** One span of a patch; parents are pairs of a place in the list of agents and a number, null for the code 0. */
    static final class Span {
        int agent;
        int number;
        int size;
        int[] parents;
        int step;
        int kind;

        Span(int agent, int number, int size, int[] parents, int step, int kind) {
            this.agent = agent;
            this.number = number;
            this.size = size;
            this.parents = parents;
            this.step = step;
            this.kind = kind;
        }
    }

    static void varint(ByteArrayOutputStream out, long value) {
        long rest = value;
        while (rest > 127) {
            out.write((int) (rest & 127 | 128));
            rest >>= 7;
        }
        out.write((int) rest);
    }

    static byte[] varints(long... values) {
        ByteArrayOutputStream out = new ByteArrayOutputStream();
        for (long value : values) {
            varint(out, value);
        }
        return out.toByteArray();
    }

    static byte[] join(byte[]... parts) {
        ByteArrayOutputStream out = new ByteArrayOutputStream();
        for (byte[] part : parts) {
            out.writeBytes(part);
        }
        return out.toByteArray();
    }

    static byte[] bytes(int... values) {
        byte[] row = new byte[values.length];
        for (int k = 0; k < values.length; k++) {
            row[k] = (byte) values[k];
        }
        return row;
    }

    static byte[] message(int kind, int sender, byte[] body) {
        return seal(join(bytes(87, kind, sender), body));
    }

    static byte[] seal(byte[] front) {
        CRC32 crc = new CRC32();
        crc.update(front);
        long sum = crc.getValue();
        return join(front, bytes((int) sum, (int) (sum >> 8), (int) (sum >> 16), (int) (sum >> 24)));
    }

    static byte[] column(byte[] content) {
        return join(varints(content.length), content);
    }

    static byte[] columns(byte[] agents, byte[] spans, byte[] parents, byte[] ops, byte[] text) {
        return join(column(agents), column(spans), column(parents), column(ops), column(text));
    }

    static byte[] agents(int... ids) {
        ByteArrayOutputStream out = new ByteArrayOutputStream();
        varint(out, ids.length);
        for (int id : ids) {
            varint(out, id);
        }
        return out.toByteArray();
    }

    /** The text as one piece of the first sort. */
    static byte[] plain(byte[] text) {
        return text.length == 0 ? varints(0) : join(varints(text.length, 2L * text.length), text);
    }

    static byte[] plain(String text) {
        return plain(text.getBytes(java.nio.charset.StandardCharsets.UTF_8));
    }

    /** So many times the letter a, packed to a few bytes. */
    static byte[] letters(int n) {
        return n < 5 ? plain("a".repeat(n)) : join(varints(n, 2), "a".getBytes(), varints(2L * (n - 1) + 1, 1));
    }

    /** A patch of the first events of an agent, so many times the letter a. */
    static byte[] run(int agent, int n) {
        return patch(0, agents(agent), letters(n), new Span(0, 0, n, new int[0], 0, 0));
    }

    static byte[] patch(int sender, byte[] agents, byte[] text, Span... spans) {
        List<byte[]> three = spanColumns(spans);
        return message(1, sender, columns(agents, three.get(0), three.get(1), three.get(2), text));
    }

    static List<byte[]> spanColumns(Span... spans) {
        ByteArrayOutputStream runs = new ByteArrayOutputStream();
        ByteArrayOutputStream parents = new ByteArrayOutputStream();
        ByteArrayOutputStream ops = new ByteArrayOutputStream();
        for (Span span : spans) {
            varint(runs, span.agent);
            varint(runs, span.number);
            varint(runs, span.size);
            varint(parents, span.parents == null ? 0 : 1 + span.parents.length / 2);
            if (span.parents != null) {
                for (int value : span.parents) {
                    varint(parents, value);
                }
            }
            long zigzag = span.step >= 0 ? 2L * span.step : -2L * span.step - 1;
            varint(ops, 3 * zigzag + span.kind);
        }
        return new ArrayList<>(List.of(runs.toByteArray(), parents.toByteArray(), ops.toByteArray()));
    }

    /** Puts bytes on the tape of an object that has an empty one. */
    static void feed(Calls x, byte[] content) {
        for (int from = 0; from < content.length; from += 20) {
            int[] words = new int[5];
            for (int k = 0; k < 20; k++) {
                int octet = from + k < content.length ? content[from + k] & 255 : 0;
                words[k / 4] = words[k / 4] << 8 | octet;
            }
            x.call("feed", words[0], words[1], words[2], words[3], words[4]);
        }
        x.call("end", content.length);
    }

    static void feed(Calls x, String text) {
        feed(x, text.getBytes(java.nio.charset.StandardCharsets.UTF_8));
    }
}
