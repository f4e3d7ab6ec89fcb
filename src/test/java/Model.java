import java.io.ByteArrayOutputStream;
import java.nio.ByteBuffer;
import java.nio.charset.CharacterCodingException;
import java.nio.charset.CodingErrorAction;
import java.nio.charset.StandardCharsets;
import java.util.ArrayList;
import java.util.Arrays;
import java.util.Collection;
import java.util.Collections;
import java.util.Comparator;
import java.util.HashSet;
import java.util.LinkedHashSet;
import java.util.List;
import java.util.Set;
import java.util.TreeMap;

/**
 * The document's words done as plainly as can be, without a thought of speed: ancestors are sets, the
 * order is made anew of the tree each time. What the program answers is held against this.
 */
final class Model implements Calls {
    private static final Comparator<Ev> BY_ID =
        Comparator.<Ev>comparingInt(e -> e.agent).thenComparingInt(e -> e.number);

    private static final class Ev {
        int agent;
        int number;
        List<Ev> parents = new ArrayList<>();
        Set<Ev> ancestors = new LinkedHashSet<>();
        boolean inserts;
        int character;
        int index;
        Ev deletes;
        Ev hook;
        boolean right;

        long id() {
            return agent * 4294967296L + number;
        }
    }

    private static final class Stop extends Exception {
        private static final long serialVersionUID = 1;
        final String name;

        Stop(String name) {
            super(name);
            this.name = "throws." + name;
        }
    }

    private static final class Fault extends Exception {
        private static final long serialVersionUID = 1;
        final int number;

        Fault(int number) {
            super("fault");
            this.number = number;
        }
    }

    private static final class Peer {
        final List<Ev> taken = new ArrayList<>();
        final List<List<Ev>> calls = new ArrayList<>();
        final List<TreeMap<Integer, Integer>> known = new ArrayList<>();

        Peer() {
            for (int k = 0; k < 4; k++) {
                known.add(new TreeMap<>());
            }
        }

        Ev get(int agent, int number) {
            for (Ev e : taken) {
                if (e.agent == agent && e.number == number) {
                    return e;
                }
            }
            return null;
        }

        int count(int agent) {
            int n = 0;
            for (Ev e : taken) {
                n += e.agent == agent ? 1 : 0;
            }
            return n;
        }

        Set<Integer> agents() {
            Set<Integer> all = new HashSet<>();
            for (Ev e : taken) {
                all.add(e.agent);
            }
            return all;
        }

        List<Ev> heads() {
            Set<Ev> rest = new LinkedHashSet<>(taken);
            for (Ev e : taken) {
                rest.removeAll(e.ancestors);
            }
            List<Ev> heads = new ArrayList<>(rest);
            heads.sort(BY_ID);
            return heads;
        }

        List<Ev> text() {
            return seen(taken);
        }
    }

    private static List<Ev> order(Collection<Ev> events) {
        List<Ev> nodes = new ArrayList<>();
        for (Ev e : events) {
            if (e.inserts) {
                nodes.add(e);
            }
        }
        nodes.sort(BY_ID);
        List<Ev> out = new ArrayList<>();
        walk(nodes, null, out);
        return out;
    }

    private static void walk(List<Ev> nodes, Ev at, List<Ev> out) {
        for (Ev e : nodes) {
            if (e.hook == at && !e.right) {
                walk(nodes, e, out);
            }
        }
        if (at != null) {
            out.add(at);
        }
        for (Ev e : nodes) {
            if (e.hook == at && e.right) {
                walk(nodes, e, out);
            }
        }
    }

    private static List<Ev> seen(Collection<Ev> events) {
        List<Ev> out = order(events);
        for (Ev e : events) {
            out.remove(e.deletes);
        }
        return out;
    }

    private byte[] tape = new byte[0];
    private final Peer[] peers = {new Peer(), new Peer(), new Peer(), new Peer()};
    private final byte[][] slots = new byte[8][];
    private final List<List<Ev>> bookmarks = new ArrayList<>(Collections.nCopies(8, null));
    private final int[] bookmarkPeer = new int[8];
    private List<Ev> view = new ArrayList<>();
    private List<int[]> hunks = new ArrayList<>();
    private final Ev[] anchorNode = new Ev[8];
    private final Peer[] anchorPeer = new Peer[8];
    private int latestFault = 0;
    private boolean touched = false;

    int length(int peer) {
        return peers[peer].text().size();
    }

    int events(int peer) {
        return peers[peer].taken.size();
    }

    int count(int peer, int agent) {
        return peers[peer].count(agent);
    }

    List<Long> heads(int peer) {
        return peers[peer].heads().stream().map(Ev::id).toList();
    }

    byte[] slot(int slot) {
        return slots[slot];
    }

    @Override
    public String call(String name, int... a) {
        try {
            return answer(name, a);
        } catch (Stop e) {
            return e.name;
        }
    }

    private String answer(String name, int[] a) throws Stop {
        switch (name) {
            case "feed": return feed(a);
            case "end": return "" + end(a[0]);
            case "insert": return "" + insert(a[0], a[1]);
            case "delete": return "" + delete(a[0], a[1], a[2]);
            case "undo": return "" + undo(a[0]);
            case "length": return "" + peer(a[0]).text().size();
            case "at": return "" + node(a[0], a[1]).character;
            case "line": return "" + line(peer(a[0]), a[1]);
            case "find": return "" + find(a[0], a[1]);
            case "blame": return "" + node(a[0], a[1]).id();
            case "events": return "" + events(peer(a[0]), a[1]);
            case "head": return "" + head(peer(a[0]), a[1]);
            case "related": return "" + related(peer(a[0]), a);
            case "critical": return "" + critical(peer(a[0]));
            case "mark": return "" + mark(a[0], a[1]);
            case "view": return "" + view(a[0]);
            case "viewed": range(a[0], 0, view.size() - 1); return "" + view.get(a[0]).character;
            case "differ": return "" + differ(a[0], a[1]);
            case "hunk": return "" + hunk(a[0], a[1]);
            case "anchor": return anchor(a[0], a[1], a[2]);
            case "place": return "" + place(a[0]);
            case "announce": return "" + announce(a[0], a[1]);
            case "send": return "" + send(a[0], a[1], a[2]);
            case "take": return "" + take(a[0], a[1]);
            case "load": return "" + load(a[0]);
            case "sync": return "" + sync(a[0], a[1]);
            case "alter": return "" + alter(a[0], a[1], a[2]);
            case "octet": return "" + octet(a[0], a[1]);
            case "fault": return "" + latestFault;
            case "crossed": return "" + crossed();
            default: throw new AssertionError(name);
        }
    }

    private static void range(long value, long low, long high) throws Stop {
        if (value < low || value > high) {
            throw new Stop("IllegalArgumentException");
        }
    }

    private Peer peer(int peer) throws Stop {
        range(peer, 0, 3);
        return peers[peer];
    }

    private Ev node(int peer, int index) throws Stop {
        List<Ev> text = peer(peer).text();
        range(index, 0, text.size() - 1);
        return text.get(index);
    }

    private String feed(int[] a) throws Stop {
        if (tape.length + 20 > 32768) {
            throw new Stop("IllegalStateException");
        }
        ByteBuffer out = ByteBuffer.allocate(tape.length + 20);
        out.put(tape);
        for (int word : a) {
            out.putInt(word);
        }
        tape = out.array();
        return "";
    }

    private int end(int n) throws Stop {
        range(n, 0, tape.length);
        int gone = tape.length - n;
        tape = Arrays.copyOf(tape, n);
        return gone;
    }

    private static int[] text(byte[] content) {
        try {
            return StandardCharsets.UTF_8.newDecoder().onMalformedInput(CodingErrorAction.REPORT)
                .onUnmappableCharacter(CodingErrorAction.REPORT).decode(ByteBuffer.wrap(content)).toString()
                .codePoints().toArray();
        } catch (CharacterCodingException e) {
            return null;
        }
    }

    private int[] tapeText() throws Stop {
        int[] symbols = text(tape);
        tape = new byte[0];
        if (symbols == null) {
            throw new Stop("UnsupportedOperationException");
        }
        return symbols;
    }

    private static boolean room(Peer peer, int agent, int events) {
        Set<Integer> agents = peer.agents();
        return peer.taken.size() + events <= 8192 && (agents.contains(agent) || agents.size() < 16);
    }

    private void needRoom(int peer, int events) throws Stop {
        if (events > 0 && !room(peers[peer], peer, events)) {
            throw new Stop("IllegalStateException");
        }
    }

    private Ev own(int peer, List<Ev> edit, boolean inserts, int character, int index) {
        Ev e = new Ev();
        e.agent = peer;
        e.number = peers[peer].count(peer);
        e.parents = edit.isEmpty() ? peers[peer].heads() : List.of(edit.get(edit.size() - 1));
        e.inserts = inserts;
        e.character = character;
        e.index = index;
        join(peers[peer], e);
        edit.add(e);
        return e;
    }

    /** Gives an event its ancestors and its place in the tree. */
    private static void join(Peer peer, Ev e) {
        findAncestors(e);
        List<Ev> seen = seen(e.ancestors);
        if (!e.inserts) {
            e.deletes = seen.get(e.index);
            peer.taken.add(e);
            return;
        }
        Ev b = e.index == 0 ? null : seen.get(e.index - 1);
        boolean some = false;
        for (Ev other : e.ancestors) {
            some = some || other.inserts && other.hook == b && other.right;
        }
        if (some) {
            List<Ev> all = order(e.ancestors);
            e.hook = all.get(all.indexOf(b) + 1);
            e.right = false;
        } else {
            e.hook = b;
            e.right = true;
        }
        peer.taken.add(e);
    }

    private static void findAncestors(Ev e) {
        e.ancestors.clear();
        for (Ev p : e.parents) {
            e.ancestors.add(p);
            e.ancestors.addAll(p.ancestors);
        }
    }

    private int insert(int peer, int index) throws Stop {
        range(index, 0, peer(peer).text().size());
        int[] symbols = tapeText();
        needRoom(peer, symbols.length);
        List<Ev> edit = new ArrayList<>();
        for (int symbol : symbols) {
            own(peer, edit, true, symbol, index + edit.size());
        }
        if (!edit.isEmpty()) {
            peers[peer].calls.add(edit);
        }
        return symbols.length;
    }

    private int delete(int peer, int index, int n) throws Stop {
        int length = peer(peer).text().size();
        range(n, 1, length);
        range(index, 0, length - n);
        needRoom(peer, n);
        List<Ev> edit = new ArrayList<>();
        for (int k = 0; k < n; k++) {
            own(peer, edit, false, -1, index);
        }
        peers[peer].calls.add(edit);
        return length(peer);
    }

    private int undo(int peer) throws Stop {
        Peer p = peer(peer);
        if (p.calls.isEmpty()) {
            throw new Stop("NoSuchElementException");
        }
        List<Ev> call = p.calls.get(p.calls.size() - 1);
        List<Ev> edit = new ArrayList<>();
        List<Ev> nodes = new ArrayList<>();
        if (call.get(0).inserts) {
            nodes.addAll(p.text());
            nodes.retainAll(call);
            Collections.reverse(nodes);
        } else {
            nodes.addAll(order(p.taken));
            nodes.retainAll(call.stream().map(e -> e.deletes).toList());
        }
        needRoom(peer, nodes.size());
        for (Ev node : nodes) {
            if (call.get(0).inserts) {
                own(peer, edit, false, -1, p.text().indexOf(node));
            } else {
                own(peer, edit, true, node.character, inFront(p, node));
            }
        }
        p.calls.remove(call);
        return edit.size();
    }

    private static int inFront(Peer peer, Ev node) {
        List<Ev> order = order(peer.taken);
        List<Ev> front = new ArrayList<>(order.subList(0, order.indexOf(node)));
        front.retainAll(peer.text());
        return front.size();
    }

    private static int line(Peer peer, int n) throws Stop {
        List<Integer> starts = new ArrayList<>(List.of(0));
        List<Ev> text = peer.text();
        for (int k = 0; k < text.size(); k++) {
            if (text.get(k).character == 10) {
                starts.add(k + 1);
            }
        }
        if (n == -1) {
            return starts.size();
        }
        if (n < 0 || n >= starts.size()) {
            throw new Stop("NoSuchElementException");
        }
        return starts.get(n);
    }

    private int find(int peer, int from) throws Stop {
        List<Integer> text = peer(peer).text().stream().map(e -> e.character).toList();
        range(from, 0, text.size());
        List<Integer> wanted = Arrays.stream(tapeText()).boxed().toList();
        int at = Collections.indexOfSubList(text.subList(from, text.size()), wanted);
        return at < 0 ? -1 : at + from;
    }

    private static int events(Peer peer, int agent) throws Stop {
        range(agent, -1, 255);
        return agent == -1 ? peer.taken.size() : peer.count(agent);
    }

    private static long head(Peer peer, int k) throws Stop {
        List<Ev> heads = peer.heads();
        if (k < 0 || k >= heads.size()) {
            throw new Stop("NoSuchElementException");
        }
        return heads.get(k).id();
    }

    private static int related(Peer peer, int[] a) throws Stop {
        range(a[1], 0, 255);
        range(a[3], 0, 255);
        Ev one = peer.get(a[1], a[2]);
        Ev two = peer.get(a[3], a[4]);
        if (one == null || two == null) {
            throw new Stop("NoSuchElementException");
        }
        return one == two ? 0 : two.ancestors.contains(one) ? 1 : one.ancestors.contains(two) ? 2 : 3;
    }

    private static int critical(Peer peer) {
        int n = 0;
        for (Ev e : peer.taken) {
            boolean all = true;
            for (Ev o : peer.taken) {
                all = all && (o == e || e.ancestors.contains(o) || o.ancestors.contains(e));
            }
            n += all ? 1 : 0;
        }
        return n;
    }

    private int mark(int b, int peer) throws Stop {
        range(b, 0, 7);
        bookmarks.set(b, new ArrayList<>(peer(peer).taken));
        bookmarkPeer[b] = peer;
        return bookmarks.get(b).size();
    }

    private List<Ev> bookmark(int b) throws Stop {
        if (bookmarks.get(b) == null) {
            throw new Stop("NoSuchElementException");
        }
        return bookmarks.get(b);
    }

    private int view(int b) throws Stop {
        range(b, 0, 7);
        view = seen(bookmark(b));
        return view.size();
    }

    private int differ(int b, int c) throws Stop {
        range(b, 0, 7);
        range(c, 0, 7);
        List<Ev> one = seen(bookmark(b));
        List<Ev> two = seen(bookmark(c));
        if (bookmarkPeer[b] != bookmarkPeer[c]) {
            throw new Stop("UnsupportedOperationException");
        }
        List<Ev> both = new ArrayList<>(one);
        both.retainAll(two);
        hunks = new ArrayList<>();
        for (int k = 0; k <= both.size(); k++) {
            int from1 = k == 0 ? 0 : one.indexOf(both.get(k - 1)) + 1;
            int from2 = k == 0 ? 0 : two.indexOf(both.get(k - 1)) + 1;
            int to1 = k == both.size() ? one.size() : one.indexOf(both.get(k));
            int to2 = k == both.size() ? two.size() : two.indexOf(both.get(k));
            if (to1 > from1 || to2 > from2) {
                hunks.add(new int[] {from1, to1 - from1, from2, to2 - from2});
            }
        }
        return hunks.size();
    }

    private int hunk(int k, int what) throws Stop {
        range(what, 0, 3);
        if (k < 0 || k >= hunks.size()) {
            throw new Stop("NoSuchElementException");
        }
        return hunks.get(k)[what];
    }

    private String anchor(int a, int peer, int index) throws Stop {
        range(a, 0, 7);
        List<Ev> text = peer(peer).text();
        range(index, 0, text.size());
        anchorPeer[a] = peers[peer];
        anchorNode[a] = index == text.size() ? null : text.get(index);
        return "";
    }

    private int place(int a) throws Stop {
        range(a, 0, 7);
        if (anchorPeer[a] == null) {
            throw new Stop("NoSuchElementException");
        }
        return anchorNode[a] == null ? anchorPeer[a].text().size() : inFront(anchorPeer[a], anchorNode[a]);
    }

    private byte[] summary(int peer) {
        ByteArrayOutputStream body = new ByteArrayOutputStream();
        Wire.varint(body, peers[peer].agents().size());
        for (int agent = 0; agent < 256; agent++) {
            if (peers[peer].count(agent) > 0) {
                Wire.varint(body, agent);
                Wire.varint(body, peers[peer].count(agent));
            }
        }
        return Wire.message(2, peer, body.toByteArray());
    }

    private int announce(int peer, int slot) throws Stop {
        peer(peer);
        range(slot, 0, 7);
        slots[slot] = summary(peer);
        return slots[slot].length;
    }

    private static boolean continues(List<Ev> span, Ev e) {
        Ev last = span.get(span.size() - 1);
        if (!e.parents.equals(List.of(last)) || e.agent != last.agent || e.number != last.number + 1) {
            return false;
        }
        List<Ev> whole = new ArrayList<>(span);
        whole.add(e);
        return kind(whole) >= 0;
    }

    private static int kind(List<Ev> span) {
        for (int kind : new int[] {1, 2, 0}) {
            boolean fits = true;
            for (int k = 0; k < span.size(); k++) {
                int step = kind == 0 ? 1 : kind == 1 ? 0 : -1;
                fits = fits && span.get(k).inserts == (kind == 0)
                    && span.get(k).index == span.get(0).index + step * k;
            }
            if (fits) {
                return kind;
            }
        }
        return -1;
    }

    private byte[] patch(int peer, int to) {
        List<List<Ev>> spans = new ArrayList<>();
        StringBuilder text = new StringBuilder();
        for (Ev e : peers[peer].taken) {
            if (to >= 0 && e.number < peers[peer].known.get(to).getOrDefault(e.agent, 0)) {
                continue;
            }
            if (spans.isEmpty() || !continues(spans.get(spans.size() - 1), e)) {
                spans.add(new ArrayList<>());
            }
            spans.get(spans.size() - 1).add(e);
            if (e.inserts) {
                text.appendCodePoint(e.character);
            }
        }
        List<Integer> agents = new ArrayList<>();
        List<Wire.Span> rows = new ArrayList<>();
        int expected = 0;
        Ev before = null;
        for (List<Ev> span : spans) {
            Ev first = span.get(0);
            int own = placeOf(agents, first.agent);
            List<Ev> parents = new ArrayList<>(first.parents);
            parents.sort(BY_ID);
            int[] pairs = null;
            if (before == null || !parents.equals(List.of(before))) {
                pairs = new int[2 * parents.size()];
                for (int k = 0; k < parents.size(); k++) {
                    pairs[2 * k] = placeOf(agents, parents.get(k).agent);
                    pairs[2 * k + 1] = parents.get(k).number;
                }
            }
            int kind = kind(span);
            rows.add(new Wire.Span(own, first.number, span.size(), pairs, first.index - expected, kind));
            expected = first.index + (kind == 0 ? 1 : kind == 1 ? 0 : -1) * span.size();
            before = span.get(span.size() - 1);
        }
        byte[] raw = text.toString().getBytes(StandardCharsets.UTF_8);
        return Wire.patch(peer, Wire.agents(agents.stream().mapToInt(k -> k).toArray()), pack(raw),
            rows.toArray(new Wire.Span[0]));
    }

    private static int placeOf(List<Integer> agents, int agent) {
        if (!agents.contains(agent)) {
            agents.add(agent);
        }
        return agents.indexOf(agent);
    }

    private static byte[] pack(byte[] raw) {
        ByteArrayOutputStream out = new ByteArrayOutputStream();
        Wire.varint(out, raw.length);
        ByteArrayOutputStream plain = new ByteArrayOutputStream();
        int at = 0;
        while (at < raw.length) {
            int n = 0;
            int d = 0;
            for (int back = 1; back <= 4095 && back <= at; back++) {
                int size = 0;
                while (size < 64 && at + size < raw.length && raw[at + size] == raw[at + size - back]) {
                    size++;
                }
                if (size >= 4 && size > n) {
                    n = size;
                    d = back;
                }
            }
            if (n == 0) {
                plain.write(raw[at]);
                at++;
                continue;
            }
            flush(plain, out);
            Wire.varint(out, 2L * n + 1);
            Wire.varint(out, d);
            at += n;
        }
        flush(plain, out);
        return out.toByteArray();
    }

    private static void flush(ByteArrayOutputStream plain, ByteArrayOutputStream out) {
        if (plain.size() > 0) {
            Wire.varint(out, 2L * plain.size());
            out.writeBytes(plain.toByteArray());
            plain.reset();
        }
    }

    private int send(int peer, int to, int slot) throws Stop {
        peer(peer);
        range(to, -1, 3);
        range(slot, 0, 7);
        byte[] message = patch(peer, to);
        if (message.length > 32768) {
            throw new Stop("IllegalStateException");
        }
        slots[slot] = message;
        return message.length;
    }

    private int receive(int peer, byte[] message) throws Stop {
        int before = peers[peer].taken.size();
        latestFault = 0;
        try {
            takeMessage(peer, message);
        } catch (Fault f) {
            latestFault = f.number;
            throw new Stop(f.number < 5 ? "IllegalArgumentException" : f.number == 5 ? "NoSuchElementException"
                : f.number == 6 ? "UnsupportedOperationException" : "IllegalStateException");
        }
        return peers[peer].taken.size() - before;
    }

    /** A part of a message that is read from its front; a fault of this number if it is not as said. */
    private static final class In {
        final byte[] content;
        final int fault;
        int at = 0;

        In(byte[] content, int fault) {
            this.content = content;
            this.fault = fault;
        }

        void check(boolean good) throws Fault {
            if (!good) {
                throw new Fault(fault);
            }
        }

        int octet() throws Fault {
            check(at < content.length);
            return content[at++] & 255;
        }

        int varint() throws Fault {
            long value = 0;
            for (int k = 0; k < 5; k++) {
                int octet = octet();
                value += (long) (octet & 127) << 7 * k;
                if (octet < 128) {
                    check(k == 0 || octet != 0);
                    check(value < 1L << 31);
                    return (int) value;
                }
            }
            throw new Fault(fault);
        }

        byte[] part(int n) throws Fault {
            check(n <= content.length - at);
            at += n;
            return Arrays.copyOfRange(content, at - n, at);
        }

        void done() throws Fault {
            check(at == content.length);
        }
    }

    private void takeMessage(int peer, byte[] m) throws Fault {
        boolean framed = m.length >= 7 && m[0] == 87 && (m[1] == 1 || m[1] == 2) && m[2] >= 0 && m[2] <= 3
            && Arrays.equals(Wire.seal(Arrays.copyOf(m, m.length - 4)), m);
        if (!framed) {
            throw new Fault(1);
        }
        In body = new In(Arrays.copyOfRange(m, 3, m.length - 4), 2);
        if (m[1] == 1) {
            takePatch(peers[peer], body);
            return;
        }
        TreeMap<Integer, Integer> counts = new TreeMap<>();
        int last = -1;
        for (int n = body.varint(); n > 0; n--) {
            int agent = body.varint();
            int count = body.varint();
            body.check(agent > last && agent < 256 && count >= 1);
            counts.put(agent, count);
            last = agent;
        }
        body.done();
        peers[peer].known.set(m[2], counts);
    }

    private static byte[] unpack(In in) throws Fault {
        int total = in.varint();
        in.check(total <= 32768);
        byte[] made = new byte[0];
        while (made.length < total) {
            int sort = in.varint();
            int n = sort / 2;
            in.check(n >= 1 && made.length + (long) n <= total);
            if (sort % 2 == 0) {
                made = Wire.join(made, in.part(n));
                continue;
            }
            int d = in.varint();
            in.check(n >= 4 && d >= 1 && d <= made.length);
            int from = made.length;
            made = Arrays.copyOf(made, from + n);
            for (int k = from; k < from + n; k++) {
                made[k] = made[k - d];
            }
        }
        in.done();
        return made;
    }

    private void takePatch(Peer peer, In body) throws Fault {
        byte[][] columns = new byte[5][];
        for (int k = 0; k < 5; k++) {
            columns[k] = body.part(body.varint());
        }
        body.done();
        In in = new In(columns[0], 2);
        int n = in.varint();
        in.check(n <= 256);
        int[] agents = new int[n];
        Set<Integer> different = new HashSet<>();
        for (int k = 0; k < n; k++) {
            agents[k] = in.varint();
            in.check(agents[k] < 256 && different.add(agents[k]));
        }
        in.done();
        int[] symbols = text(unpack(new In(columns[4], 3)));
        if (symbols == null) {
            throw new Fault(3);
        }
        List<long[]> events = new ArrayList<>();
        List<int[][]> parents = new ArrayList<>();
        readSpans(columns, agents, symbols, events, parents);
        for (int k = 0; k < events.size(); k++) {
            bring(peer, events.get(k), parents.get(k));
        }
    }

    /** Events are agent, number, inserts, character, index; parents are ids. */
    private static void readSpans(byte[][] columns, int[] agents, int[] symbols, List<long[]> events,
            List<int[][]> parents) throws Fault {
        In spans = new In(columns[1], 4);
        In rows = new In(columns[2], 4);
        In ops = new In(columns[3], 4);
        long expected = 0;
        int inserted = 0;
        int[] last = null;
        while (spans.at < spans.content.length) {
            int place = spans.varint();
            int number = spans.varint();
            int size = spans.varint();
            spans.check(place < agents.length && size >= 1 && events.size() + (long) size <= 8192);
            int code = rows.varint();
            rows.check(code > 0 || last != null);
            List<int[]> row = new ArrayList<>();
            if (code == 0) {
                row.add(last);
            }
            for (int k = 1; k < code; k++) {
                int who = rows.varint();
                rows.check(who < agents.length);
                row.add(new int[] {agents[who], rows.varint()});
            }
            int op = ops.varint();
            long zigzag = op / 3;
            long index = expected + (zigzag % 2 == 0 ? zigzag / 2 : -(zigzag + 1) / 2);
            int step = op % 3 == 0 ? 1 : op % 3 == 1 ? 0 : -1;
            for (int k = 0; k < size; k++) {
                ops.check(index >= 0);
                boolean inserts = step == 1;
                spans.check(!inserts || inserted < symbols.length);
                events.add(new long[] {agents[place], number + (long) k, inserts ? 1 : 0,
                    inserts ? symbols[inserted] : -1, index});
                inserted += inserts ? 1 : 0;
                parents.add(k == 0 ? row.toArray(new int[0][]) : new int[][] {last});
                last = new int[] {agents[place], number + k};
                index += step;
            }
            expected = index;
        }
        rows.done();
        ops.done();
        spans.check(inserted == symbols.length);
    }

    private static void bring(Peer peer, long[] what, int[][] parents) throws Fault {
        int agent = (int) what[0];
        if (what[1] < peer.count(agent)) {
            return;
        }
        if (what[1] > peer.count(agent)) {
            throw new Fault(5);
        }
        Ev e = new Ev();
        e.agent = agent;
        e.number = (int) what[1];
        e.inserts = what[2] == 1;
        e.character = (int) what[3];
        for (int[] id : parents) {
            Ev parent = peer.get(id[0], id[1]);
            if (parent == null) {
                throw new Fault(5);
            }
            e.parents.add(parent);
        }
        findAncestors(e);
        boolean wrong = new HashSet<>(e.parents).size() < e.parents.size();
        for (Ev p : e.parents) {
            for (Ev q : e.parents) {
                wrong = wrong || p.ancestors.contains(q);
            }
        }
        wrong = wrong || e.number != 0 && !e.ancestors.contains(peer.get(agent, e.number - 1));
        int seen = seen(e.ancestors).size();
        if (wrong || what[4] > seen || what[4] == seen && !e.inserts) {
            throw new Fault(6);
        }
        if (!room(peer, agent, 1)) {
            throw new Fault(7);
        }
        e.index = (int) what[4];
        join(peer, e);
    }

    private int take(int peer, int slot) throws Stop {
        peer(peer);
        range(slot, 0, 7);
        if (slots[slot] == null) {
            throw new Stop("NoSuchElementException");
        }
        return receive(peer, slots[slot]);
    }

    private int load(int peer) throws Stop {
        peer(peer);
        touched = true;
        byte[] message = tape;
        tape = new byte[0];
        return receive(peer, message);
    }

    private int sync(int from, int to) throws Stop {
        peer(from);
        peer(to);
        receive(from, summary(to));
        byte[] message = patch(from, to);
        if (message.length > 32768) {
            throw new Stop("IllegalStateException");
        }
        return receive(to, message);
    }

    private int alter(int slot, int place, int value) throws Stop {
        range(slot, 0, 7);
        range(value, 0, 255);
        if (slots[slot] == null) {
            throw new Stop("NoSuchElementException");
        }
        range(place, 0, slots[slot].length - 1);
        int old = slots[slot][place] & 255;
        slots[slot][place] = (byte) value;
        touched = touched || old != value;
        return old;
    }

    private int octet(int slot, int place) throws Stop {
        range(slot, 0, 7);
        range(place, -1, Integer.MAX_VALUE);
        if (slots[slot] == null) {
            throw new Stop("NoSuchElementException");
        }
        range(place, -1, slots[slot].length - 1);
        return place == -1 ? slots[slot].length : slots[slot][place] & 255;
    }

    private int crossed() {
        if (touched) {
            return -1;
        }
        int n = 0;
        for (int p = 0; p < 4; p++) {
            for (int q = p + 1; q < 4; q++) {
                List<Long> one = new ArrayList<>(order(peers[p].taken).stream().map(Ev::id).toList());
                List<Long> two = order(peers[q].taken).stream().map(Ev::id).toList();
                one.retainAll(two);
                for (int k = 1; k < one.size(); k++) {
                    n += two.indexOf(one.get(k)) < two.indexOf(one.get(k - 1)) ? 1 : 0;
                }
            }
        }
        return n;
    }
}
