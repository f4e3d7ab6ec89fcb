import java.util.ArrayList;
import java.util.Arrays;
import java.util.NoSuchElementException;

/**
 * A text that four peers write at once. Each peer keeps a graph of all edits that it knows; its text
 * is what a tree of the inserted characters, walked in order, leaves after the deletions.
 */
public final class WeaveText {
    private static final int NONE = -1;

    private static final int PEERS = 4;
    private static final int SLOTS = 8;
    private static final int BOOKMARKS = 8;
    private static final int ANCHORS = 8;
    private static final int EVENTS = 8192;
    private static final int AGENTS = 16;
    private static final int AGENT_IDS = 256;
    private static final int BYTES = 32768;

    private static final int FIRST_BYTE = 87;
    private static final int PATCH = 1;
    private static final int SUMMARY = 2;
    private static final int FRONT = 3;
    private static final int CHECKSUM = 4;

    private static final int SOUND = 0;
    private static final int BAD_FRAME = 1;
    private static final int BAD_BODY = 2;
    private static final int BAD_TEXT = 3;
    private static final int BAD_SPANS = 4;
    private static final int MISSING = 5;
    private static final int WRONG = 6;
    private static final int NO_ROOM = 7;

    private static final int INSERTS = 0;
    private static final int DELETES_THERE = 1;
    private static final int DELETES_BACKWARD = 2;

    private static final int ABSENT = 0;
    private static final int SEEN = 1;
    private static final int STRUCK = 2;

    private final Bytes tape = new Bytes();
    private final Bytes wire = new Bytes();
    private final Bytes[] slots = new Bytes[SLOTS];
    private final Peer[] peers = new Peer[PEERS];
    private final PatchWriter writer;
    private final PatchReader reader;
    private int latestFault = SOUND;
    private boolean foreign = false;

    private final int[] markedPeer = new int[BOOKMARKS];
    private final int[] markedSize = new int[BOOKMARKS];
    private int[] shownText = new int[64];
    private int shownSize = 0;
    private final Hunks hunks = new Hunks();
    private final int[] anchoredPeer = new int[ANCHORS];
    private final Event[] anchoredNode = new Event[ANCHORS];

    public WeaveText() {
        for (int k = 0; k < SLOTS; k++) {
            slots[k] = new Bytes();
        }
        for (int k = 0; k < PEERS; k++) {
            peers[k] = new Peer(k);
        }
        Packer packer = new Packer();
        writer = new PatchWriter(packer);
        reader = new PatchReader(packer);
        Arrays.fill(markedPeer, NONE);
        Arrays.fill(anchoredPeer, NONE);
    }

    public void feed(int a, int b, int c, int d, int e) throws IllegalStateException {
        if (tape.size + 20 > BYTES) {
            throw new IllegalStateException();
        }
        tape.addWord(a);
        tape.addWord(b);
        tape.addWord(c);
        tape.addWord(d);
        tape.addWord(e);
    }

    public int end(int n) throws IllegalArgumentException {
        require(n >= 0 && n <= tape.size);
        int gone = tape.size - n;
        tape.size = n;
        return gone;
    }

    public int insert(int peer, int index)
            throws IllegalArgumentException, UnsupportedOperationException, IllegalStateException {
        Peer own = peerOf(peer);
        require(index >= 0 && index <= own.graph.visible);
        int symbols = tape.countSymbols();
        boolean fits = symbols >= 0 && own.hasRoom(symbols);
        if (fits) {
            own.insertText(tape, index, symbols);
        }
        tape.clear();
        if (symbols < 0) {
            throw new UnsupportedOperationException();
        }
        if (!fits) {
            throw new IllegalStateException();
        }
        return symbols;
    }

    public int delete(int peer, int index, int n) throws IllegalArgumentException, IllegalStateException {
        Peer own = peerOf(peer);
        require(n >= 1 && index >= 0 && index <= own.graph.visible - n);
        if (!own.hasRoom(n)) {
            throw new IllegalStateException();
        }
        own.deleteText(index, n);
        return own.graph.visible;
    }

    public int undo(int peer) throws IllegalArgumentException, NoSuchElementException, IllegalStateException {
        Peer own = peerOf(peer);
        Edit edit = own.latestEdit();
        if (edit == null) {
            throw new NoSuchElementException();
        }
        int cost = own.costOfUndoing(edit);
        if (!own.hasRoom(cost)) {
            throw new IllegalStateException();
        }
        own.revert(edit);
        return cost;
    }

    public int length(int peer) throws IllegalArgumentException {
        return peerOf(peer).graph.visible;
    }

    public int at(int peer, int index) throws IllegalArgumentException {
        return nodeOf(peer, index).character;
    }

    public int line(int peer, int n) throws IllegalArgumentException, NoSuchElementException {
        Graph graph = peerOf(peer).graph;
        if (n == NONE) {
            return graph.countLines();
        }
        int start = graph.lineStart(n);
        if (start == NONE) {
            throw new NoSuchElementException();
        }
        return start;
    }

    public int find(int peer, int from) throws IllegalArgumentException, UnsupportedOperationException {
        Graph graph = peerOf(peer).graph;
        require(from >= 0 && from <= graph.visible);
        boolean text = tape.countSymbols() >= 0;
        int answer = text ? graph.search(tape, from) : NONE;
        tape.clear();
        if (!text) {
            throw new UnsupportedOperationException();
        }
        return answer;
    }

    public long blame(int peer, int index) throws IllegalArgumentException {
        return nodeOf(peer, index).id();
    }

    public int events(int peer, int agent) throws IllegalArgumentException {
        Graph graph = peerOf(peer).graph;
        require(agent >= NONE && agent < AGENT_IDS);
        return agent == NONE ? graph.taken.size() : graph.countOf(agent);
    }

    public long head(int peer, int k) throws IllegalArgumentException, NoSuchElementException {
        Graph graph = peerOf(peer).graph;
        if (k < 0 || k >= graph.heads.size()) {
            throw new NoSuchElementException();
        }
        return graph.heads.get(k).id();
    }

    public int related(int peer, int agent, int number, int agent2, int number2)
            throws IllegalArgumentException, NoSuchElementException {
        Graph graph = peerOf(peer).graph;
        require(agent >= 0 && agent < AGENT_IDS && agent2 >= 0 && agent2 < AGENT_IDS);
        Event first = graph.lookup(agent, number);
        Event second = graph.lookup(agent2, number2);
        if (first == null || second == null) {
            throw new NoSuchElementException();
        }
        if (first == second) {
            return 0;
        }
        return second.follows(first) ? 1 : first.follows(second) ? 2 : 3;
    }

    public int critical(int peer) throws IllegalArgumentException {
        return peerOf(peer).graph.countCritical();
    }

    public int mark(int b, int peer) throws IllegalArgumentException {
        require(b >= 0 && b < BOOKMARKS);
        markedSize[b] = peerOf(peer).graph.taken.size();
        markedPeer[b] = peer;
        return markedSize[b];
    }

    public int view(int b) throws IllegalArgumentException, NoSuchElementException {
        int peer = bookmarkedPeer(b);
        if (peer == NONE) {
            throw new NoSuchElementException();
        }
        shownSize = 0;
        for (Event e = peers[peer].graph.root.next; e != null; e = e.next) {
            if (e.standsIn(markedSize[b])) {
                addToView(e.character);
            }
        }
        return shownSize;
    }

    public int viewed(int index) throws IllegalArgumentException {
        require(index >= 0 && index < shownSize);
        return shownText[index];
    }

    public int differ(int b, int c)
            throws IllegalArgumentException, NoSuchElementException, UnsupportedOperationException {
        int peer = bookmarkedPeer(b);
        int other = bookmarkedPeer(c);
        if (peer == NONE || other == NONE) {
            throw new NoSuchElementException();
        }
        if (peer != other) {
            throw new UnsupportedOperationException();
        }
        hunks.compare(peers[peer].graph, markedSize[b], markedSize[c]);
        return hunks.count;
    }

    public int hunk(int k, int what) throws IllegalArgumentException, NoSuchElementException {
        require(what >= 0 && what < Hunks.WIDTH);
        if (k < 0 || k >= hunks.count) {
            throw new NoSuchElementException();
        }
        return hunks.rows[Hunks.WIDTH * k + what];
    }

    public void anchor(int a, int peer, int index) throws IllegalArgumentException {
        require(a >= 0 && a < ANCHORS);
        Graph graph = peerOf(peer).graph;
        require(index >= 0 && index <= graph.visible);
        anchoredPeer[a] = peer;
        anchoredNode[a] = index == graph.visible ? null : graph.textNode(index);
    }

    public int place(int a) throws IllegalArgumentException, NoSuchElementException {
        require(a >= 0 && a < ANCHORS);
        if (anchoredPeer[a] == NONE) {
            throw new NoSuchElementException();
        }
        return peers[anchoredPeer[a]].graph.countInFrontOf(anchoredNode[a]);
    }

    public int announce(int peer, int slot) throws IllegalArgumentException {
        Peer own = peerOf(peer);
        Bytes message = slotOf(slot);
        own.writeSummary(message);
        return message.size;
    }

    public int send(int peer, int to, int slot) throws IllegalArgumentException, IllegalStateException {
        Peer own = peerOf(peer);
        require(to >= NONE && to < PEERS);
        Bytes message = slotOf(slot);
        writer.gather(own, to);
        writer.compose(wire, peer);
        if (wire.spilt) {
            throw new IllegalStateException();
        }
        message.clear();
        message.addRange(wire, 0, wire.size);
        return message.size;
    }

    public int take(int peer, int slot)
            throws IllegalArgumentException, NoSuchElementException, UnsupportedOperationException,
            IllegalStateException {
        Peer own = peerOf(peer);
        Bytes message = slotOf(slot);
        if (message.size == 0) {
            throw new NoSuchElementException();
        }
        int came = deliver(own, message);
        raiseFault();
        return came;
    }

    public int load(int peer)
            throws IllegalArgumentException, NoSuchElementException, UnsupportedOperationException,
            IllegalStateException {
        Peer own = peerOf(peer);
        foreign = true;
        int came = deliver(own, tape);
        tape.clear();
        raiseFault();
        return came;
    }

    public int sync(int from, int to)
            throws IllegalArgumentException, NoSuchElementException, UnsupportedOperationException,
            IllegalStateException {
        Peer giver = peerOf(from);
        Peer taker = peerOf(to);
        taker.writeSummary(wire);
        deliver(giver, wire);
        writer.gather(giver, to);
        writer.compose(wire, from);
        if (wire.spilt) {
            throw new IllegalStateException();
        }
        int came = deliver(taker, wire);
        raiseFault();
        return came;
    }

    public int alter(int slot, int place, int value) throws IllegalArgumentException, NoSuchElementException {
        require(value >= 0 && value < 256);
        Bytes message = slotOf(slot);
        if (message.size == 0) {
            throw new NoSuchElementException();
        }
        require(place >= 0 && place < message.size);
        int old = message.get(place);
        message.data[place] = (byte) value;
        foreign = foreign || old != value;
        return old;
    }

    public int octet(int slot, int place) throws IllegalArgumentException, NoSuchElementException {
        require(place >= NONE);
        Bytes message = slotOf(slot);
        if (message.size == 0) {
            throw new NoSuchElementException();
        }
        require(place < message.size);
        return place == NONE ? message.size : message.get(place);
    }

    public int fault() {
        return latestFault;
    }

    public int crossed() {
        if (foreign) {
            return NONE;
        }
        int count = 0;
        for (int p = 0; p < PEERS; p++) {
            for (int q = p + 1; q < PEERS; q++) {
                count += peers[p].graph.countCrossings(peers[q].graph);
            }
        }
        return count;
    }

    private static void require(boolean inRange) {
        if (!inRange) {
            throw new IllegalArgumentException();
        }
    }

    private Peer peerOf(int peer) {
        require(peer >= 0 && peer < PEERS);
        return peers[peer];
    }

    private Bytes slotOf(int slot) {
        require(slot >= 0 && slot < SLOTS);
        return slots[slot];
    }

    private int bookmarkedPeer(int b) {
        require(b >= 0 && b < BOOKMARKS);
        return markedPeer[b];
    }

    private Event nodeOf(int peer, int index) {
        Graph graph = peerOf(peer).graph;
        require(index >= 0 && index < graph.visible);
        return graph.textNode(index);
    }

    private void addToView(int character) {
        if (shownSize == shownText.length) {
            shownText = Arrays.copyOf(shownText, 2 * shownSize);
        }
        shownText[shownSize] = character;
        shownSize++;
    }

    /** Answers how many events came in; what was wrong with the message is the latest fault then. */
    private int deliver(Peer peer, Bytes message) {
        if (!message.isFramed()) {
            latestFault = BAD_FRAME;
            return 0;
        }
        if (message.get(1) == SUMMARY) {
            latestFault = peer.learn(message) ? SOUND : BAD_BODY;
            return 0;
        }
        latestFault = reader.inspect(message);
        if (latestFault != SOUND) {
            return 0;
        }
        int before = peer.graph.taken.size();
        latestFault = reader.bring(message, peer.graph);
        return peer.graph.taken.size() - before;
    }

    private void raiseFault() {
        if (latestFault == MISSING) {
            throw new NoSuchElementException();
        }
        if (latestFault == WRONG) {
            throw new UnsupportedOperationException();
        }
        if (latestFault == NO_ROOM) {
            throw new IllegalStateException();
        }
        if (latestFault != SOUND) {
            throw new IllegalArgumentException();
        }
    }

    /** Bytes in a row that grows as they come, up to the most that a tape or a message may have; more is spilt. */
    private static final class Bytes {
        /** The checksum's remainders of half a byte: two steps a byte instead of eight, and no large table. */
        private static final int[] REMAINDERS = {
            0x00000000, 0x1db71064, 0x3b6e20c8, 0x26d930ac, 0x76dc4190, 0x6b6b51f4, 0x4db26158, 0x5005713c,
            0xedb88320, 0xf00f9344, 0xd6d6a3e8, 0xcb61b38c, 0x9b64c2b0, 0x86d3d2d4, 0xa00ae278, 0xbdbdf21c
        };

        private byte[] data = new byte[64];
        private int size = 0;
        private boolean spilt = false;

        void clear() {
            size = 0;
            spilt = false;
        }

        int get(int place) {
            return place < 0 || place >= size ? 0 : data[place] & 255;
        }

        void add(int value) {
            if (size >= BYTES) {
                spilt = true;
                return;
            }
            if (size == data.length) {
                data = Arrays.copyOf(data, Math.min(BYTES, 2 * size));
            }
            data[size] = (byte) value;
            size++;
        }

        void addWord(int word) {
            add(word >>> 24);
            add(word >>> 16);
            add(word >>> 8);
            add(word);
        }

        void addVarint(int value) {
            int rest = value;
            for (int k = 0; k < 4 && rest > 127; k++) {
                add(rest & 127 | 128);
                rest >>>= 7;
            }
            add(rest);
        }

        void addRange(Bytes from, int start, int stop) {
            for (int k = start; k < stop; k++) {
                add(from.get(k));
            }
        }

        void addColumn(Bytes column) {
            addVarint(column.size);
            addRange(column, 0, column.size);
        }

        void addSymbol(int code) {
            int more = widthOf(code) - 1;
            if (more == 0) {
                add(code);
                return;
            }
            add(code >> 6 * more | (more == 1 ? 192 : more == 2 ? 224 : 240));
            for (int k = more - 1; k >= 0; k--) {
                add(code >> 6 * k & 63 | 128);
            }
        }

        /** The symbol that begins at a place, NONE if there is none in UTF-8. */
        int symbolAt(int place) {
            int first = get(place);
            if (first < 128) {
                return first;
            }
            int more = first < 224 ? 1 : first < 240 ? 2 : 3;
            if (first < 192 || first > 247 || place + more >= size) {
                return NONE;
            }
            int code = first & 63 >> more;
            for (int k = 1; k <= more; k++) {
                int next = get(place + k);
                if ((next & 192) != 128) {
                    return NONE;
                }
                code = code << 6 | next & 63;
            }
            return isCharacter(code) && widthOf(code) == more + 1 ? code : NONE;
        }

        /** How many symbols these bytes are, NONE if they are no UTF-8. */
        int countSymbols() {
            int count = 0;
            for (int place = 0; place < size; count++) {
                int code = symbolAt(place);
                if (code == NONE) {
                    return NONE;
                }
                place += widthOf(code);
            }
            return count;
        }

        void begin(int kind, int sender) {
            clear();
            add(FIRST_BYTE);
            add(kind);
            add(sender);
        }

        void seal() {
            int sum = checksum(size);
            for (int k = 0; k < CHECKSUM; k++) {
                add(sum >>> 8 * k);
            }
        }

        boolean isFramed() {
            if (size < FRONT + CHECKSUM || get(0) != FIRST_BYTE || get(2) >= PEERS) {
                return false;
            }
            if (get(1) != PATCH && get(1) != SUMMARY) {
                return false;
            }
            int sum = checksum(size - CHECKSUM);
            for (int k = 0; k < CHECKSUM; k++) {
                if (get(size - CHECKSUM + k) != (sum >>> 8 * k & 255)) {
                    return false;
                }
            }
            return true;
        }

        private int checksum(int stop) {
            int sum = ~0;
            for (int k = 0; k < stop; k++) {
                sum ^= get(k);
                sum = sum >>> 4 ^ REMAINDERS[sum & 15];
                sum = sum >>> 4 ^ REMAINDERS[sum & 15];
            }
            return ~sum;
        }

        private static boolean isCharacter(int code) {
            return code <= 1114111 && (code < 55296 || code > 57343);
        }

        static int widthOf(int code) {
            return code < 128 ? 1 : code < 2048 ? 2 : code < 65536 ? 3 : 4;
        }
    }

    /** Reads numbers from a part of a message; NONE is what is not written as it should be. */
    private static final class Cursor {
        private Bytes source = null;
        private int next = 0;
        private int stop = 0;

        void open(Bytes bytes, int from, int to) {
            source = bytes;
            next = from;
            stop = to;
        }

        boolean isDone() {
            return next >= stop;
        }

        int varint() {
            int value = 0;
            for (int k = 0; k < 5 && next < stop; k++) {
                int octet = source.get(next);
                next++;
                if (k == 4 && octet > 7) {
                    return NONE;
                }
                value |= (octet & 127) << 7 * k;
                if (octet < 128) {
                    return octet == 0 && k > 0 ? NONE : value;
                }
            }
            return NONE;
        }

        /** Opens another cursor on the column that stands here; false if it does not fit. */
        boolean splitTo(Cursor column) {
            int size = varint();
            if (size < 0 || size > stop - next) {
                return false;
            }
            column.open(source, next, next + size);
            next += size;
            return true;
        }

        boolean copyTo(Bytes out, int count) {
            if (count > stop - next) {
                return false;
            }
            out.addRange(source, next, next + count);
            next += count;
            return true;
        }
    }

    /** What a graph has of one agent; the slot is its place in the counts of a version. */
    private static final class Agent {
        private final int id;
        private final int slot;
        private final ArrayList<Event> events = new ArrayList<>();

        Agent(int id, int slot) {
            this.id = id;
            this.slot = slot;
        }
    }

    /** An event of one graph; if it inserts, it is a node of the tree, too. */
    private static final class Event {
        private final Agent agent;
        private final int number;
        private final int taken;
        private final Event[] parents;
        /** How many events of each other agent are ancestors: one row for a whole run of events. */
        private final int[] before;
        private final int character;
        private final int index;
        private Event target = null;

        private Event firstLeft = null;
        private Event firstRight = null;
        private Event sibling = null;
        private Event prev = null;
        private Event next = null;
        /** ABSENT, SEEN or STRUCK in the version that the graph shows. */
        private int state = ABSENT;
        /** When the first event that deletes this node was taken. */
        private int struckAt = NONE;
        private int rank = 0;

        Event(Agent agent, int number, int taken, Event[] parents, int[] before, int character, int index) {
            this.agent = agent;
            this.number = number;
            this.taken = taken;
            this.parents = parents;
            this.before = before;
            this.character = character;
            this.index = index;
        }

        boolean inserts() {
            return character != NONE;
        }

        long id() {
            return ((long) agent.id << 32) + number;
        }

        /** An agent's events are each other's ancestors, so that a count tells which of them are. */
        int ancestorsOf(int slot) {
            return slot == agent.slot ? number : before[slot];
        }

        boolean follows(Event other) {
            return other.number < ancestorsOf(other.agent.slot);
        }

        boolean isVisible() {
            return struckAt == NONE;
        }

        /** Whether this node is in the text of the graph when it had so many events. */
        boolean standsIn(int size) {
            return taken < size && (struckAt == NONE || struckAt >= size);
        }
    }

    /** An insert or delete call: its events were taken one behind the other. */
    private static final class Edit {
        private final int first;
        private final int size;

        Edit(int first, int size) {
            this.first = first;
            this.size = size;
        }
    }

    /** The events that a peer has, their tree as a chain in order, and one version of it that is shown. */
    private static final class Graph {
        private final Event root =
            new Event(new Agent(NONE, NONE), NONE, NONE, new Event[0], new int[AGENTS], NONE, NONE);
        private final ArrayList<Event> taken = new ArrayList<>();
        private final Agent[] agents = new Agent[AGENT_IDS];
        private int agentCount = 0;
        private final ArrayList<Event> heads = new ArrayList<>();
        private int visible = 0;

        /**
         * An event acts in the text of its ancestors. That text is kept from one event to the next, as
         * the next one mostly goes on where the last one was: shown has how many events of each agent
         * are in it, seen how many nodes, through how many of them stand up to the finger.
         */
        private final int[] shown = new int[AGENTS];
        private final int[] wanted = new int[AGENTS];
        private final int[] least = new int[AGENTS];
        private int seen = 0;
        private Event finger = root;
        private int through = 0;

        int countOf(int agentId) {
            Agent agent = agents[agentId];
            return agent == null ? 0 : agent.events.size();
        }

        Event lookup(int agentId, int number) {
            return number < 0 || number >= countOf(agentId) ? null : agents[agentId].events.get(number);
        }

        Event newest() {
            return taken.isEmpty() ? null : taken.get(taken.size() - 1);
        }

        boolean hasRoom(int agentId, int count) {
            return taken.size() + count <= EVENTS && (agents[agentId] != null || agentCount < AGENTS);
        }

        /**
         * The fault of an event whose number is the next of its agent. If there is none, the text of its
         * ancestors is shown, so that it can enter.
         */
        int faultOf(int agentId, int number, Event[] parents, int parentCount, boolean inserts, long index) {
            if (areRelated(parents, parentCount)) {
                return WRONG;
            }
            Arrays.fill(wanted, 0);
            for (int k = 0; k < parentCount; k++) {
                wantWith(parents[k]);
            }
            Agent agent = agents[agentId];
            if (agent != null && wanted[agent.slot] != number) {
                return WRONG;
            }
            showWanted();
            if (index > seen || index == seen && !inserts) {
                return WRONG;
            }
            return hasRoom(agentId, 1) ? SOUND : NO_ROOM;
        }

        private static boolean areRelated(Event[] events, int count) {
            for (int k = 0; k < count; k++) {
                for (int j = 0; j < k; j++) {
                    if (events[j] == events[k] || events[j].follows(events[k]) || events[k].follows(events[j])) {
                        return true;
                    }
                }
            }
            return false;
        }

        private static Event[] sorted(Event[] events, int count) {
            Event[] row = new Event[count];
            for (int k = 0; k < count; k++) {
                int hole = k;
                for (; hole > 0 && row[hole - 1].id() > events[k].id(); hole--) {
                    row[hole] = row[hole - 1];
                }
                row[hole] = events[k];
            }
            return row;
        }

        private void wantWith(Event e) {
            for (int slot = 0; slot < agentCount; slot++) {
                wanted[slot] = Math.max(wanted[slot], e.ancestorsOf(slot));
            }
            int own = e.agent.slot;
            wanted[own] = Math.max(wanted[own], e.number + 1);
        }

        /** Shows the peer's own text: the heads have all other events as ancestors. */
        void showAll() {
            Arrays.fill(wanted, 0);
            for (int k = 0; k < heads.size(); k++) {
                wantWith(heads.get(k));
            }
            showWanted();
        }

        private void showWanted() {
            boolean same = true;
            for (int slot = 0; slot < AGENTS; slot++) {
                same = same && shown[slot] == wanted[slot];
                shown[slot] = wanted[slot];
            }
            if (!same) {
                rebuildShown();
            }
        }

        private void rebuildShown() {
            seen = 0;
            finger = root;
            through = 0;
            for (int k = 0; k < taken.size(); k++) {
                Event e = taken.get(k);
                boolean in = e.number < shown[e.agent.slot];
                if (e.inserts()) {
                    e.state = in ? SEEN : ABSENT;
                    seen += in ? 1 : 0;
                } else if (in && e.target.state == SEEN) {
                    e.target.state = STRUCK;
                    seen--;
                }
            }
        }

        /** The shown node of an index, at which the finger is left. */
        private Event shownNode(int index) {
            if (index < through - index) {
                finger = root;
                through = 0;
            }
            for (Event e = finger; e != null && index < through; e = e.prev) {
                finger = e;
                if (e.state == SEEN && through - 1 == index) {
                    return e;
                }
                through -= e.state == SEEN ? 1 : 0;
            }
            for (Event e = finger.next; e != null; e = e.next) {
                finger = e;
                through += e.state == SEEN ? 1 : 0;
                if (through == index + 1) {
                    return e;
                }
            }
            return root;
        }

        /** Lets an event come in that acts in the text that is shown. */
        void enter(int agentId, Event[] parents, int parentCount, int character, int index) {
            if (agents[agentId] == null) {
                agents[agentId] = new Agent(agentId, agentCount);
                agentCount++;
            }
            Agent agent = agents[agentId];
            boolean goesOn = parentCount == 1 && parents[0].agent == agent;
            int[] before = goesOn ? parents[0].before : shown.clone();
            Event[] row = sorted(parents, parentCount);
            Event e = new Event(agent, agent.events.size(), taken.size(), row, before, character, index);
            if (e.inserts()) {
                hang(e);
            } else {
                strike(e);
            }
            taken.add(e);
            agent.events.add(e);
            shown[agent.slot] = e.number + 1;
            renewHeads(e);
        }

        private void strike(Event e) {
            Event node = shownNode(e.index);
            e.target = node;
            node.state = STRUCK;
            seen--;
            through--;
            if (node.isVisible()) {
                node.struckAt = e.taken;
                visible--;
            }
        }

        private void hang(Event e) {
            Event left = e.index == 0 ? root : shownNode(e.index - 1);
            Event right = hasShownRight(left) ? nextShown(left) : null;
            Event first = right == null ? left.firstRight : right.firstLeft;
            Event lesser = lastBefore(e, first);
            if (lesser != null) {
                linkBehind(e, lastBelow(lesser));
                e.sibling = lesser.sibling;
                lesser.sibling = e;
            } else if (right == null) {
                linkBehind(e, left);
                e.sibling = first;
                left.firstRight = e;
            } else {
                linkBehind(e, firstBelow(right).prev);
                e.sibling = first;
                right.firstLeft = e;
            }
            e.state = SEEN;
            seen++;
            visible++;
            finger = e;
            through = e.index + 1;
        }

        private static boolean hasShownRight(Event node) {
            for (Event e = node.firstRight; e != null; e = e.sibling) {
                if (e.state != ABSENT) {
                    return true;
                }
            }
            return false;
        }

        private static Event nextShown(Event node) {
            for (Event e = node.next; e != null; e = e.next) {
                if (e.state != ABSENT) {
                    return e;
                }
            }
            return null;
        }

        private static Event lastBefore(Event e, Event first) {
            Event last = null;
            for (Event s = first; s != null && s.id() < e.id(); s = s.sibling) {
                last = s;
            }
            return last;
        }

        private static Event firstBelow(Event node) {
            Event first = node;
            for (Event e = node.firstLeft; e != null; e = e.firstLeft) {
                first = e;
            }
            return first;
        }

        private static Event lastBelow(Event node) {
            Event last = node;
            for (Event e = node.firstRight; e != null; e = e.sibling == null ? e.firstRight : e.sibling) {
                last = e;
            }
            return last;
        }

        private static void linkBehind(Event e, Event node) {
            e.prev = node;
            e.next = node.next;
            if (e.next != null) {
                e.next.prev = e;
            }
            node.next = e;
        }

        private void renewHeads(Event e) {
            for (int k = 0; k < e.parents.length; k++) {
                dropHead(e.parents[k]);
            }
            int k = heads.size();
            while (k > 0 && heads.get(k - 1).id() > e.id()) {
                k--;
            }
            heads.add(k, e);
        }

        private void dropHead(Event e) {
            for (int k = heads.size() - 1; k >= 0; k--) {
                if (heads.get(k) == e) {
                    heads.remove(k);
                }
            }
        }

        Event textNode(int index) {
            showAll();
            return shownNode(index);
        }

        /** Gives each node the number of characters of the text that stand in front of it. */
        void rankByText() {
            int count = 0;
            for (Event e = root.next; e != null; e = e.next) {
                e.rank = count;
                count += e.isVisible() ? 1 : 0;
            }
        }

        int countInFrontOf(Event node) {
            int count = 0;
            for (Event e = root.next; e != null && e != node; e = e.next) {
                count += e.isVisible() ? 1 : 0;
            }
            return count;
        }

        int countLines() {
            int lines = 1;
            for (Event e = root.next; e != null; e = e.next) {
                lines += e.isVisible() && e.character == 10 ? 1 : 0;
            }
            return lines;
        }

        int lineStart(int n) {
            int line = 0;
            int index = 0;
            for (Event e = root.next; e != null && line < n; e = e.next) {
                if (e.isVisible()) {
                    index++;
                    line += e.character == 10 ? 1 : 0;
                }
            }
            return line == n ? index : NONE;
        }

        int search(Bytes pattern, int from) {
            if (pattern.size == 0) {
                return from;
            }
            int index = 0;
            for (Event e = root.next; e != null; e = e.next) {
                if (e.isVisible()) {
                    if (index >= from && beginsAt(e, pattern)) {
                        return index;
                    }
                    index++;
                }
            }
            return NONE;
        }

        private static boolean beginsAt(Event start, Bytes pattern) {
            int place = 0;
            for (Event e = start; e != null && place < pattern.size; e = e.next) {
                if (e.isVisible()) {
                    if (pattern.symbolAt(place) != e.character) {
                        return false;
                    }
                    place += Bytes.widthOf(e.character);
                }
            }
            return place >= pattern.size;
        }

        /**
         * Events come in behind their ancestors: all taken before one must be its ancestors, and it
         * must be one of all taken later, of which the least counts are kept on the way back.
         */
        int countCritical() {
            Arrays.fill(least, EVENTS);
            int count = 0;
            for (int k = taken.size() - 1; k >= 0; k--) {
                Event e = taken.get(k);
                boolean below = e.number < least[e.agent.slot];
                int ancestors = 0;
                for (int slot = 0; slot < agentCount; slot++) {
                    ancestors += e.ancestorsOf(slot);
                    least[slot] = Math.min(least[slot], e.ancestorsOf(slot));
                }
                count += below && ancestors == k ? 1 : 0;
            }
            return count;
        }

        int countCrossings(Graph other) {
            int rank = 0;
            for (Event e = other.root.next; e != null; e = e.next) {
                e.rank = rank;
                rank++;
            }
            int count = 0;
            int last = NONE;
            for (Event e = root.next; e != null; e = e.next) {
                Event twin = other.lookup(e.agent.id, e.number);
                if (twin != null && twin.inserts()) {
                    count += twin.rank < last ? 1 : 0;
                    last = twin.rank;
                }
            }
            return count;
        }
    }

    /** A peer: its graph, its own calls that may be undone, and what it knows of each peer. */
    private static final class Peer {
        private final int number;
        private final Graph graph = new Graph();
        private final ArrayList<Edit> edits = new ArrayList<>();
        private final int[][] known = new int[PEERS][AGENT_IDS];
        private final Event[] parents = new Event[AGENTS];
        private final Cursor body = new Cursor();

        Peer(int number) {
            this.number = number;
        }

        boolean hasRoom(int count) {
            return count == 0 || graph.hasRoom(number, count);
        }

        void insertText(Bytes text, int index, int symbols) {
            int place = 0;
            for (int k = 0; k < symbols; k++) {
                int code = text.symbolAt(place);
                place += Bytes.widthOf(code);
                write(code, index + k);
            }
            keepEdit(symbols);
        }

        void deleteText(int index, int n) {
            for (int k = 0; k < n; k++) {
                write(NONE, index);
            }
            keepEdit(n);
        }

        private void keepEdit(int size) {
            if (size > 0) {
                edits.add(new Edit(graph.taken.size() - size, size));
            }
        }

        /** Makes an own event. From an edit's second one on, the one before is the only head. */
        private void write(int character, int index) {
            int count = Math.min(AGENTS, graph.heads.size());
            for (int k = 0; k < count; k++) {
                parents[k] = graph.heads.get(k);
            }
            graph.showAll();
            graph.enter(number, parents, count, character, index);
        }

        Edit latestEdit() {
            return edits.isEmpty() ? null : edits.get(edits.size() - 1);
        }

        int costOfUndoing(Edit edit) {
            int cost = 0;
            for (int k = 0; k < edit.size; k++) {
                Event e = graph.taken.get(edit.first + k);
                cost += !e.inserts() || e.isVisible() ? 1 : 0;
            }
            return cost;
        }

        void revert(Edit edit) {
            graph.rankByText();
            if (graph.taken.get(edit.first).inserts()) {
                deleteAgain(edit);
            } else {
                insertAgain(edit);
            }
            edits.remove(edits.size() - 1);
        }

        /** A call's nodes stand in the order in which it made them, so the last one comes first. */
        private void deleteAgain(Edit edit) {
            for (int k = edit.size - 1; k >= 0; k--) {
                Event e = graph.taken.get(edit.first + k);
                if (e.isVisible()) {
                    write(NONE, e.rank);
                }
            }
        }

        /** What is inserted again stands in front of its old node, and so of all that follow it. */
        private void insertAgain(Edit edit) {
            for (int k = 0; k < edit.size; k++) {
                Event node = graph.taken.get(edit.first + k).target;
                write(node.character, node.rank + k);
            }
        }

        void writeSummary(Bytes out) {
            out.begin(SUMMARY, number);
            out.addVarint(graph.agentCount);
            for (int agent = 0; agent < AGENT_IDS; agent++) {
                int count = graph.countOf(agent);
                if (count > 0) {
                    out.addVarint(agent);
                    out.addVarint(count);
                }
            }
            out.seal();
        }

        /** Takes a summary in; false if it is not as it should be, and then nothing is taken. */
        boolean learn(Bytes message) {
            openBody(message);
            int n = body.varint();
            int last = NONE;
            for (int k = 0; k < n; k++) {
                int agent = body.varint();
                if (agent <= last || agent >= AGENT_IDS || body.varint() < 1) {
                    return false;
                }
                last = agent;
            }
            if (n < 0 || !body.isDone()) {
                return false;
            }
            int[] counts = known[message.get(2)];
            Arrays.fill(counts, 0);
            openBody(message);
            body.varint();
            for (int k = 0; k < n; k++) {
                int agent = body.varint();
                counts[agent] = body.varint();
            }
            return true;
        }

        private void openBody(Bytes message) {
            body.open(message, FRONT, message.size - CHECKSUM);
        }

        boolean lacks(int other, Event e) {
            return other == NONE || e.number >= known[other][e.agent.id];
        }
    }

    /** The differences of two texts of one graph, four numbers each. */
    private static final class Hunks {
        private static final int WIDTH = 4;

        private int[] rows = new int[16 * WIDTH];
        private int count = 0;
        private int firstIndex = 0;
        private int secondIndex = 0;
        private int deleted = 0;
        private int inserted = 0;

        void compare(Graph graph, int firstSize, int secondSize) {
            count = 0;
            firstIndex = 0;
            secondIndex = 0;
            for (Event e = graph.root.next; e != null; e = e.next) {
                boolean inFirst = e.standsIn(firstSize);
                boolean inSecond = e.standsIn(secondSize);
                if (inFirst && inSecond) {
                    close();
                    firstIndex++;
                    secondIndex++;
                } else {
                    deleted += inFirst ? 1 : 0;
                    inserted += inSecond ? 1 : 0;
                }
            }
            close();
        }

        private void close() {
            if (deleted + inserted == 0) {
                return;
            }
            int row = WIDTH * count;
            if (row == rows.length) {
                rows = Arrays.copyOf(rows, 2 * row);
            }
            rows[row] = firstIndex;
            rows[row + 1] = deleted;
            rows[row + 2] = secondIndex;
            rows[row + 3] = inserted;
            count++;
            firstIndex += deleted;
            secondIndex += inserted;
            deleted = 0;
            inserted = 0;
        }
    }

    /** Packs the bytes of a text and makes them of what is packed. */
    private static final class Packer {
        private static final int LEAST = 4;
        private static final int MOST = 64;
        private static final int REACH = 4095;
        private static final int CHAINS = 1024;

        private final Bytes raw = new Bytes();
        /** Places with like bytes hang together in chains, the nearest first; 0 ends a chain. */
        private final int[] newest = new int[CHAINS];
        private int[] older = new int[64];
        private int bestSize = 0;
        private int bestBack = 0;

        void pack(Bytes out) {
            out.clear();
            out.addVarint(raw.size);
            Arrays.fill(newest, 0);
            if (older.length < raw.size) {
                older = new int[Math.max(raw.size, Math.min(BYTES, 2 * older.length))];
            }
            int plain = 0;
            int place = 0;
            while (place < raw.size) {
                seekRepeat(place);
                int step = Math.max(1, bestSize);
                if (bestSize > 0) {
                    addPlain(out, plain, place);
                    out.addVarint(2 * bestSize + 1);
                    out.addVarint(bestBack);
                    plain = place + step;
                }
                for (int k = 0; k < step; k++) {
                    remember(place + k);
                }
                place += step;
            }
            addPlain(out, plain, place);
        }

        private void addPlain(Bytes out, int start, int stop) {
            if (stop > start) {
                out.addVarint(2 * (stop - start));
                out.addRange(raw, start, stop);
            }
        }

        private int chainOf(int place) {
            int mix = raw.get(place) * 31 + raw.get(place + 1);
            mix = mix * 31 + raw.get(place + 2);
            return (mix * 31 + raw.get(place + 3)) % CHAINS;
        }

        private void remember(int place) {
            if (place + LEAST <= raw.size) {
                int chain = chainOf(place);
                older[place] = newest[chain];
                newest[chain] = place + 1;
            }
        }

        /** Sets the longest repeat that can begin at a place, of these the nearest; size 0 for none. */
        private void seekRepeat(int place) {
            bestSize = 0;
            int most = Math.min(MOST, raw.size - place);
            if (most < LEAST) {
                return;
            }
            int from = newest[chainOf(place)];
            for (int k = 0; k < REACH && from > 0 && bestSize < most; k++) {
                int back = place - from + 1;
                if (back > REACH) {
                    return;
                }
                int size = sameBytes(place, back, most);
                if (size >= LEAST && size > bestSize) {
                    bestSize = size;
                    bestBack = back;
                }
                from = older[from - 1];
            }
        }

        private int sameBytes(int place, int back, int most) {
            int size = 0;
            while (size < most && raw.get(place + size) == raw.get(place + size - back)) {
                size++;
            }
            return size;
        }

        boolean unpack(Cursor packed) {
            raw.clear();
            int total = packed.varint();
            if (total < 0 || total > BYTES) {
                return false;
            }
            while (raw.size < total) {
                int sort = packed.varint();
                int size = sort >> 1;
                if (size < 1 || size > total - raw.size) {
                    return false;
                }
                boolean made = (sort & 1) == 0 ? packed.copyTo(raw, size) : repeat(size, packed.varint());
                if (!made) {
                    return false;
                }
            }
            return packed.isDone();
        }

        private boolean repeat(int size, int back) {
            if (size < LEAST || back < 1 || back > raw.size) {
                return false;
            }
            for (int k = 0; k < size; k++) {
                raw.add(raw.get(raw.size - back));
            }
            return true;
        }
    }

    /** Writes the events that another peer lacks as a patch. */
    private static final class PatchWriter {
        private final Bytes agents = new Bytes();
        private final Bytes spans = new Bytes();
        private final Bytes parents = new Bytes();
        private final Bytes ops = new Bytes();
        private final Bytes packed = new Bytes();
        private final Packer packer;
        private final int[] places = new int[AGENT_IDS];
        private final int[] met = new int[AGENT_IDS];
        private int agentCount = 0;
        private Event first = null;
        private Event last = null;
        private int size = 0;
        private int kind = INSERTS;
        private Event spanBefore = null;
        private int expected = 0;

        PatchWriter(Packer packer) {
            this.packer = packer;
        }

        /** Makes the columns. */
        void gather(Peer peer, int to) {
            begin();
            ArrayList<Event> taken = peer.graph.taken;
            for (int k = 0; k < taken.size(); k++) {
                Event e = taken.get(k);
                if (peer.lacks(to, e)) {
                    addEvent(e);
                }
            }
            closeSpan();
            agents.addVarint(agentCount);
            for (int k = 0; k < agentCount; k++) {
                agents.addVarint(met[k]);
            }
            packer.pack(packed);
        }

        /** Makes the message of the columns; if they are too long for one, bytes of it are spilt. */
        void compose(Bytes out, int sender) {
            out.begin(PATCH, sender);
            out.addColumn(agents);
            out.addColumn(spans);
            out.addColumn(parents);
            out.addColumn(ops);
            out.addColumn(packed);
            out.seal();
        }

        private void begin() {
            agents.clear();
            spans.clear();
            parents.clear();
            ops.clear();
            packer.raw.clear();
            Arrays.fill(places, NONE);
            agentCount = 0;
            first = null;
            last = null;
            spanBefore = null;
            expected = 0;
        }

        private void addEvent(Event e) {
            if (first == null || !goesOn(e)) {
                closeSpan();
                first = e;
                size = 0;
                kind = e.inserts() ? INSERTS : DELETES_THERE;
            } else if (!e.inserts() && e.index < last.index) {
                kind = DELETES_BACKWARD;
            }
            last = e;
            size++;
            if (e.inserts()) {
                packer.raw.addSymbol(e.character);
            }
        }

        private boolean goesOn(Event e) {
            if (e.parents.length != 1 || e.parents[0] != last || e.agent != last.agent) {
                return false;
            }
            if (e.inserts() != last.inserts()) {
                return false;
            }
            int step = e.index - last.index;
            if (e.inserts()) {
                return step == 1;
            }
            // Only the second event of a span tells which of the two sorts of deleting it is.
            return step == 0 && kind == DELETES_THERE || step == -1 && (size == 1 || kind == DELETES_BACKWARD);
        }

        private void closeSpan() {
            if (first == null) {
                return;
            }
            spans.addVarint(placeOf(first.agent.id));
            spans.addVarint(first.number);
            spans.addVarint(size);
            writeParents();
            int step = first.index - expected;
            ops.addVarint(3 * (step >= 0 ? 2 * step : -2 * step - 1) + kind);
            expected = last.index + (kind == INSERTS ? 1 : kind == DELETES_THERE ? 0 : -1);
            spanBefore = last;
            first = null;
        }

        private void writeParents() {
            Event[] row = first.parents;
            if (row.length == 1 && row[0] == spanBefore) {
                parents.addVarint(0);
                return;
            }
            parents.addVarint(1 + row.length);
            for (int k = 0; k < row.length; k++) {
                parents.addVarint(placeOf(row[k].agent.id));
                parents.addVarint(row[k].number);
            }
        }

        private int placeOf(int agentId) {
            if (places[agentId] == NONE) {
                places[agentId] = agentCount;
                met[agentCount] = agentId;
                agentCount++;
            }
            return places[agentId];
        }
    }

    /** Reads a patch twice: first to see whether all of it is written as it should be, then to bring it in. */
    private static final class PatchReader {
        private final Packer packer;
        private final Cursor body = new Cursor();
        private final Cursor agents = new Cursor();
        private final Cursor spans = new Cursor();
        private final Cursor parents = new Cursor();
        private final Cursor ops = new Cursor();
        private final Cursor text = new Cursor();
        private final int[] ids = new int[AGENT_IDS];
        private final Event[] found = new Event[AGENTS];
        private int agentCount = 0;
        private Event last = null;
        private int symbolPlace = 0;

        private int agent = 0;
        private int number = 0;
        private int size = 0;
        /** How many parents are written out for the span; NONE if it goes on from the one before. */
        private int parentCount = 0;
        private int parentsPlace = 0;
        private int kind = 0;
        /** Indices of a message may be far beyond those of any text. */
        private long index = 0;
        private long expected = 0;

        PatchReader(Packer packer) {
            this.packer = packer;
        }

        int inspect(Bytes message) {
            if (!openColumns(message) || !readAgents()) {
                return BAD_BODY;
            }
            int symbols = packer.unpack(text) ? packer.raw.countSymbols() : NONE;
            if (symbols == NONE) {
                return BAD_TEXT;
            }
            return areSpansSound(symbols) ? SOUND : BAD_SPANS;
        }

        private boolean openColumns(Bytes message) {
            body.open(message, FRONT, message.size - CHECKSUM);
            return body.splitTo(agents) && body.splitTo(spans) && body.splitTo(parents) && body.splitTo(ops)
                && body.splitTo(text) && body.isDone();
        }

        private boolean readAgents() {
            agentCount = agents.varint();
            if (agentCount < 0 || agentCount > AGENT_IDS) {
                return false;
            }
            for (int k = 0; k < agentCount; k++) {
                ids[k] = agents.varint();
                if (ids[k] < 0 || ids[k] >= AGENT_IDS) {
                    return false;
                }
                for (int j = 0; j < k; j++) {
                    if (ids[j] == ids[k]) {
                        return false;
                    }
                }
            }
            return agents.isDone();
        }

        private boolean areSpansSound(int symbols) {
            int total = 0;
            int inserted = 0;
            expected = 0;
            while (total < EVENTS && !spans.isDone()) {
                // There is nothing in front of the first span that it could go on from.
                if (!readSpan() || size > EVENTS - total || total == 0 && parentCount == NONE) {
                    return false;
                }
                total += size;
                inserted += kind == INSERTS ? size : 0;
            }
            return spans.isDone() && parents.isDone() && ops.isDone() && inserted == symbols;
        }

        private boolean readSpan() {
            int place = spans.varint();
            number = spans.varint();
            size = spans.varint();
            if (place < 0 || place >= agentCount || number < 0 || size < 1) {
                return false;
            }
            agent = ids[place];
            return readParents() && readOp();
        }

        private boolean readParents() {
            int code = parents.varint();
            if (code < 0) {
                return false;
            }
            parentCount = code - 1;
            parentsPlace = parents.next;
            for (int k = 0; k < parentCount; k++) {
                int place = parents.varint();
                if (place < 0 || place >= agentCount || parents.varint() < 0) {
                    return false;
                }
            }
            return true;
        }

        private boolean readOp() {
            int code = ops.varint();
            if (code < 0) {
                return false;
            }
            kind = code % 3;
            int zigzag = code / 3;
            index = expected + ((zigzag & 1) == 0 ? zigzag >> 1 : -(zigzag >> 1) - 1);
            long step = kind == INSERTS ? 1 : kind == DELETES_THERE ? 0 : -1;
            expected = index + step * size;
            return index >= 0 && index + step * (size - 1) >= 0;
        }

        /** Brings the events of an inspected patch into a graph, up to the first fault, which it answers. */
        int bring(Bytes message, Graph graph) {
            openColumns(message);
            last = null;
            symbolPlace = 0;
            expected = 0;
            for (int k = 0; k < EVENTS && !spans.isDone(); k++) {
                readSpan();
                for (int step = 0; step < size; step++) {
                    int fault = bringEvent(graph, step);
                    if (fault != SOUND) {
                        return fault;
                    }
                }
            }
            return SOUND;
        }

        private int bringEvent(Graph graph, int step) {
            int character = kind == INSERTS ? nextSymbol() : NONE;
            Event known = graph.lookup(agent, number + step);
            if (known != null) {
                last = known;
                return SOUND;
            }
            int count = number + step > graph.countOf(agent) ? NONE : seekParents(graph, step);
            if (count == NONE) {
                return MISSING;
            }
            // Of so many events two are of one agent, and so one is an ancestor of the other.
            if (count > AGENTS) {
                return WRONG;
            }
            long there = index + (kind == INSERTS ? step : kind == DELETES_THERE ? 0 : -step);
            int fault = graph.faultOf(agent, number + step, found, count, kind == INSERTS, there);
            if (fault == SOUND) {
                graph.enter(agent, found, count, character, (int) there);
                last = graph.newest();
            }
            return fault;
        }

        private int nextSymbol() {
            int code = packer.raw.symbolAt(symbolPlace);
            symbolPlace += Bytes.widthOf(code);
            return code;
        }

        /** Seeks the parents of an event of the span: how many it has, NONE if one is not there. */
        private int seekParents(Graph graph, int step) {
            if (step > 0 || parentCount == NONE) {
                found[0] = last;
                return last == null ? NONE : 1;
            }
            parents.next = parentsPlace;
            for (int k = 0; k < parentCount; k++) {
                int id = ids[parents.varint()];
                Event parent = graph.lookup(id, parents.varint());
                if (parent == null) {
                    return NONE;
                }
                if (k < AGENTS) {
                    found[k] = parent;
                }
            }
            return parentCount;
        }
    }
}
