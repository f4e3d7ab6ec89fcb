import java.nio.charset.StandardCharsets;
import java.util.Arrays;
import java.util.function.Consumer;

/**
 * Each sentence of promises 23 to 31, and of the terms on messages, that names a boundary case. The name of
 * a test is the promise, or the fault, and what the sentence says.
 */
public final class MessageBoundariesTest extends Bench {
    private static final int[] ROOT = {};
    private static final byte[] NOTHING = {};
    private static final byte[] ZERO = Wire.varints(0);
    private static final byte[] NINE = Wire.agents(9);

    private MessageBoundariesTest(Calls x, String name) {
        super(x, name);
    }

    public static void main(String[] args) {
        frames();
        patches();
        events();
        writing();
        taking();
        slots();
        finish("the boundaries of messages");
    }

    private static void frames() {
        both("fault 1: shorter than 7 bytes", MessageBoundariesTest::shortMessages);
        both("fault 1: the byte 87", MessageBoundariesTest::firstByte);
        both("fault 1: the kind", MessageBoundariesTest::kinds);
        both("fault 1: the sender 0 .. 3", MessageBoundariesTest::senders);
        both("fault 1: the checksum, the lowest first", MessageBoundariesTest::checksums);
        both("fault 2: varints of a summary", MessageBoundariesTest::varints);
        both("terms: a varint as large as can be", MessageBoundariesTest::varintWidths);
        both("fault 2: agents of a summary rise, below 256", MessageBoundariesTest::summaryAgents);
        both("fault 2: counts of a summary are 1 or above", MessageBoundariesTest::summaryCounts);
        both("fault 2: a summary is cut, or has something behind it", MessageBoundariesTest::summaryFilled);
        both("terms: nothing is known at first", MessageBoundariesTest::knownFirst);
        both("terms: the latest summary with this sender", MessageBoundariesTest::knownLatest);
        both("terms: then nothing is taken", MessageBoundariesTest::knownStays);
        both("terms: what a peer knows is its own", MessageBoundariesTest::knownApart);
        both("terms: its number is below the count of its agent", MessageBoundariesTest::knownBelow);
    }

    private static void patches() {
        both("fault 2: the columns fill the patch", MessageBoundariesTest::columnsFill);
        both("fault 2: at most 256 agents", MessageBoundariesTest::agentsMost);
        both("fault 2: different agents below 256, just filled", MessageBoundariesTest::agentsAsSaid);
        both("fault 3: at most 32768 bytes", MessageBoundariesTest::textMost);
        both("fault 3: a piece of the first sort has 1 byte or more", MessageBoundariesTest::plainPieces);
        both("fault 3: a piece of the second sort has 4 bytes or more", MessageBoundariesTest::shortRepeats);
        both("fault 3: d is 1 or above, at most what is made so far", MessageBoundariesTest::distances);
        both("fault 3: pieces make just these", MessageBoundariesTest::justThese);
        both("fault 3: no UTF-8", MessageBoundariesTest::noText);
        both("fault 4: a span's length is 1 or above", MessageBoundariesTest::spanLength);
        both("fault 4: all together at most 8192", MessageBoundariesTest::spansMost);
        both("fault 4: an agent is a place in the list", MessageBoundariesTest::agentPlaces);
        both("fault 4: nothing is in front of the first span", MessageBoundariesTest::firstParent);
        both("fault 4: no index below 0", MessageBoundariesTest::indexBelow);
        both("fault 4: columns just filled", MessageBoundariesTest::spansFilled);
        both("fault 4: another number of characters", MessageBoundariesTest::otherNumber);
        both("faults 1 to 4 are looked for in this order", MessageBoundariesTest::faultOrder);
        both("faults 1 to 4: nothing is taken", MessageBoundariesTest::nothingTaken);
    }

    private static void events() {
        both("terms: what the index of a next event would be", MessageBoundariesTest::expectedIndex);
        both("terms: written out such a parent is taken, too", MessageBoundariesTest::writtenOut);
        both("terms: passed over, whatever it says", MessageBoundariesTest::passedOver);
        both("fault 5: its number is above how many there are", MessageBoundariesTest::numberAbove);
        both("fault 5: a parent is not there", MessageBoundariesTest::parentMissing);
        both("fault 6: a parent is an ancestor, or stands twice", MessageBoundariesTest::parentsRelated);
        both("fault 6: the event before it is no ancestor", MessageBoundariesTest::beforeNoAncestor);
        both("fault 6: deleting, its index is not below", MessageBoundariesTest::deleteIndex);
        both("fault 6: inserting, its index is above", MessageBoundariesTest::insertIndex);
        both("fault 6: how many nodes it sees, deleted ones left out", MessageBoundariesTest::seenByEach);
        real("fault 7: no room for the event", MessageBoundariesTest::noRoom);
        both("fault 7: no room for its agent", MessageBoundariesTest::noAgent);
        both("faults 5 to 7 are looked for in this order", MessageBoundariesTest::eventFaultOrder);
        both("faults 5 to 7: the events before have come in", MessageBoundariesTest::eventsBefore);
        real("faults 5 to 7: in a full graph, too", MessageBoundariesTest::fullFaultOrder);
    }

    private static void writing() {
        both("23 announce: an empty graph", t -> t.announced(0, ZERO));
        both("23 announce: all agents and counts", MessageBoundariesTest::announceCounts);
        both("23 announce: the slot has only this", MessageBoundariesTest::announceReplaces);
        both("24 send: nothing to tell", MessageBoundariesTest::sendNothing);
        both("24 send: for to -1 of all", MessageBoundariesTest::sendAll);
        both("24 send: to may be the peer itself", MessageBoundariesTest::sendItself);
        both("24 send: a single deleting one has kind 1", MessageBoundariesTest::sendSingle);
        both("24 send: spans as long as can be, from the first on", MessageBoundariesTest::sendLongest);
        both("24 send: indices that go up do not go on deleting", MessageBoundariesTest::sendBreaks);
        both("24 send: spans across calls", MessageBoundariesTest::sendAcross);
        both("24 send: in a span, one agent", MessageBoundariesTest::sendOtherAgent);
        both("24 send: in a span, the one before is the only parent", MessageBoundariesTest::sendOtherParent);
        both("24 send: the index behind 0 is -1", MessageBoundariesTest::sendBelowZero);
        both("24 send: agents as first met, parents by rising ids", MessageBoundariesTest::sendParents);
        both("24 send: parents by rising ids, however they came", MessageBoundariesTest::sendSortedParents);
        both("24 send: the greatest n from 4 to 64", MessageBoundariesTest::packSizes);
        both("24 send: the least d", MessageBoundariesTest::packNearest);
        both("24 send: bytes that come to a piece of the first sort", MessageBoundariesTest::packPlain);
        both("24 send: characters of several bytes", MessageBoundariesTest::packWide);
        both("24 send: the UTF-8 of all inserted characters", MessageBoundariesTest::sendSymbols);
        real("24 send: longer than 32768 bytes", MessageBoundariesTest::sendTooLong);
    }

    private static void taking() {
        both("25 take: the slot has none", MessageBoundariesTest::takeNone);
        both("25 take: the message stays", MessageBoundariesTest::takeAgain);
        both("25 take: a summary brings no event", MessageBoundariesTest::takeSummary);
        both("25 take: what each fault throws", MessageBoundariesTest::takeFaults);
        both("25 take: an altered message, sealed again", MessageBoundariesTest::takeForged);
        both("26 load: the tape is empty then", MessageBoundariesTest::loadEmpties);
        both("26 load: an empty tape", MessageBoundariesTest::loadEmpty);
        both("26 load: not if peer is out of range", MessageBoundariesTest::loadRange);
        both("27 sync: both may be one peer", MessageBoundariesTest::syncItself);
        both("27 sync: no slot is used", MessageBoundariesTest::syncNoSlot);
        both("27 sync: as for take", MessageBoundariesTest::syncWrong);
        real("27 sync: no room", MessageBoundariesTest::syncNoRoom);
        real("27 sync: as for send", MessageBoundariesTest::syncTooLong);
        real("27 sync: the patch that from writes for it", MessageBoundariesTest::syncShort);
        both("30 fault: 0 before", t -> t.due(0, "fault"));
        both("30 fault: the latest message", MessageBoundariesTest::faultLatest);
        both("30 fault: a call that throws ahead of a message leaves it", MessageBoundariesTest::faultStays);
        both("31 crossed: alter has made a byte another one", MessageBoundariesTest::crossedAlter);
        both("31 crossed: load was called for a peer", MessageBoundariesTest::crossedLoad);
        both("31 crossed: 0 as long as peers only tell each other", MessageBoundariesTest::crossedNever);
    }

    private static void slots() {
        both("terms: slots 0 .. 7 have none at first", MessageBoundariesTest::slotsEmpty);
        both("28 alter: a value 0 .. 255, the one before", MessageBoundariesTest::alterValues);
        both("28 alter: the slot has no message, then no such place", MessageBoundariesTest::alterPlaces);
        both("29 octet: for place -1 how many", MessageBoundariesTest::octetPlaces);
    }

    private static void both(String name, Consumer<MessageBoundariesTest> test) {
        real(name, test);
        test.accept(new MessageBoundariesTest(new Model(), name + " (model)"));
    }

    /** For what is too much for the model. */
    private static void real(String name, Consumer<MessageBoundariesTest> test) {
        MessageBoundariesTest one = new MessageBoundariesTest(new Real(), name);
        test.accept(one);
        one.withinCalls();
    }

    private static Wire.Span span(int number, int size, int[] parents, int step, int kind) {
        return new Wire.Span(0, number, size, parents, step, kind);
    }

    private static byte[] summary(int sender, long... values) {
        return Wire.message(2, sender, Wire.varints(values));
    }

    /** A patch of so many characters of agent 9, with this TEXT. */
    private static byte[] run(int size, byte[] text) {
        return Wire.patch(0, NINE, text, span(0, size, ROOT, 0, 0));
    }

    /** A patch of one character of agent 9, with this TEXT. */
    private static byte[] withText(byte[] text) {
        return Wire.patch(0, NINE, text, span(0, 1, ROOT, 0, 0));
    }

    private void shortMessages() {
        byte[] none = summary(0, 0);
        for (int size = 0; size < 7; size++) {
            load(ARGUMENT, 1, 0, Arrays.copyOf(none, size));
        }
        // With two bytes in front of the checksum it is wrong, with three only the body is.
        load(ARGUMENT, 1, 0, Wire.seal(Wire.bytes(87, 2)));
        load(ARGUMENT, 2, 0, Wire.seal(Wire.bytes(87, 2, 0)));
        load(ARGUMENT, 2, 0, Wire.seal(Wire.bytes(87, 1, 0)));
        load(0, 0, none);
    }

    private void firstByte() {
        for (int first : new int[] {0, 86, 88, 215, 255}) {
            load(ARGUMENT, 1, 0, Wire.seal(Wire.bytes(first, 2, 0, 0)));
        }
        load(0, 0, Wire.seal(Wire.bytes(87, 2, 0, 0)));
    }

    private void kinds() {
        for (int kind : new int[] {0, 3, 129, 130, 255}) {
            load(ARGUMENT, 1, 0, Wire.seal(Wire.bytes(87, kind, 0, 0)));
        }
        load(0, 0, Wire.message(1, 0, Wire.columns(ZERO, NOTHING, NOTHING, NOTHING, ZERO)));
    }

    private void senders() {
        for (int sender : new int[] {4, 128, 131, 255}) {
            load(ARGUMENT, 1, 0, Wire.seal(Wire.bytes(87, 2, sender, 0)));
        }
        for (int sender = 0; sender < 4; sender++) {
            load(0, 2, Wire.seal(Wire.bytes(87, 2, sender, 0)));
        }
    }

    private void checksums() {
        byte[] good = summary(3, 1, 200, 300);
        for (int bit = 0; bit < 32; bit++) {
            byte[] bad = good.clone();
            bad[bad.length - 4 + bit / 8] ^= 1 << bit % 8;
            load(ARGUMENT, 1, 0, bad);
        }
        byte[] turned = good.clone();
        for (int k = 0; k < 4; k++) {
            turned[turned.length - 1 - k] = good[good.length - 4 + k];
        }
        load(ARGUMENT, 1, 0, turned);
        load(ARGUMENT, 1, 0, Arrays.copyOf(good, good.length - 1));
        load(ARGUMENT, 1, 0, Wire.join(good, ZERO));
        load(0, 0, good);
    }

    private void varints() {
        int[][] bad = {
            {0x80}, {0x80, 0}, {1, 0x85, 0, 1}, {1, 5, 0x81, 0}, {1, 5, 0x80, 0x80, 0x80, 0x80, 0x80, 1},
            {1, 5, 0x80, 0x80, 0x80, 0x80, 8}, {1, 5, 255, 255, 255, 255, 15}, {1, 5, 255, 255, 255, 255, 127},
            // In 32 bits these would wrap around, to what is right again.
            {1, 5, 0x81, 0x80, 0x80, 0x80, 16}, {1, 5, 0x80, 0x80, 0x80, 0x80, 17}, {1, 5, 255, 255, 255, 255, 0x77},
            {1, 5, 255, 255, 255, 255, 0x87, 0}, {1, 5, 0x80, 0x80, 0x80, 0x80, 0}, {1, 5, 255}
        };
        for (int[] body : bad) {
            load(ARGUMENT, 2, 0, Wire.message(2, 0, Wire.bytes(body)));
        }
        load(0, 0, Wire.message(2, 0, Wire.bytes(1, 5, 255, 255, 255, 255, 7)));
        load(0, 0, Wire.message(2, 0, Wire.bytes(1, 5, 0x80, 0x80, 0x80, 0x80, 1)));
    }

    /** Counts from one byte to five: what is known of peer 1 shows how they were read. */
    private void varintWidths() {
        String text = "0123456789".repeat(13) + "abcdefghij";
        insert(0, 0, text);
        for (int known : new int[] {131, 132, 137, 139}) {
            load(0, 0, summary(1, 1, 0, known));
            byte[] patch = Wire.patch(0, Wire.agents(0), Wire.plain(text.substring(known)),
                span(known, 140 - known, new int[] {0, known - 1}, known, 0));
            due(patch.length, "send", 0, 1, 0);
            message(0, patch);
        }
        for (int count : new int[] {140, 16383, 16384, 2097151, 2097152, 268435455, 268435456, HIGH}) {
            load(0, 0, summary(1, 0));
            load(0, 0, summary(1, 1, 0, count));
            due(14, "send", 0, 1, 0);
        }
    }

    private void summaryAgents() {
        load(ARGUMENT, 2, 0, summary(0, 1, 256, 1));
        load(ARGUMENT, 2, 0, summary(0, 2, 5, 1, 5, 1));
        load(ARGUMENT, 2, 0, summary(0, 2, 5, 1, 4, 1));
        load(ARGUMENT, 2, 0, summary(0, 3, 0, 1, 255, 1, 256, 1));
        load(0, 0, summary(0, 1, 255, 1));
        load(0, 0, summary(0, 3, 0, 1, 1, 1, 255, 1));
        long[] all = new long[513];
        all[0] = 256;
        for (int k = 0; k < 256; k++) {
            all[2 * k + 1] = k;
            all[2 * k + 2] = 1;
        }
        load(0, 0, summary(0, all));
    }

    private void summaryCounts() {
        load(ARGUMENT, 2, 0, summary(0, 1, 5, 0));
        load(ARGUMENT, 2, 0, summary(0, 2, 5, 1, 6, 0));
        load(0, 0, summary(0, 2, 5, 1, 6, HIGH));
    }

    private void summaryFilled() {
        load(ARGUMENT, 2, 0, Wire.message(2, 0, NOTHING));
        load(ARGUMENT, 2, 0, summary(0, 1));
        load(ARGUMENT, 2, 0, summary(0, 1, 5));
        load(ARGUMENT, 2, 0, summary(0, 2, 5, 1));
        load(ARGUMENT, 2, 0, summary(0, HIGH, 5, 1));
        load(ARGUMENT, 2, 0, summary(0, 0, 0));
        load(ARGUMENT, 2, 0, summary(0, 1, 5, 1, 6));
        load(ARGUMENT, 2, 0, summary(0, 1, 5, 1, 6, 1));
        load(0, 0, summary(0, 2, 5, 1, 6, 1));
    }

    private void knownFirst() {
        insert(0, 0, "ab");
        for (int to = -1; to < 4; to++) {
            due(Wire.run(0, 2).length, "send", 0, to, 0);
        }
    }

    private void knownApart() {
        load(2, 0, Wire.run(9, 2));
        due(2, "sync", 0, 1);
        load(0, 0, summary(3, 1, 9, 2));
        due(14, "send", 0, 3, 0);
        due(Wire.run(9, 2).length, "send", 1, 3, 0);
        load(0, 1, summary(3, 1, 9, 1));
        due(14, "send", 0, 3, 0);
        x.call("send", 1, 3, 0);
        byte[] last = Wire.patch(1, NINE, Wire.plain("a"), span(1, 1, new int[] {0, 0}, 1, 0));
        message(0, last);
    }

    private void knownLatest() {
        insert(0, 0, "ab");
        load(1, 0, Wire.patch(0, NINE, Wire.plain("c"), span(0, 1, ROOT, 0, 0)));
        load(0, 0, summary(1, 2, 0, 2, 9, 1));
        due(14, "send", 0, 1, 0);
        // It counts alone, even where it tells of less; and only for its sender.
        load(0, 0, summary(1, 1, 9, 1));
        due(Wire.run(0, 2).length, "send", 0, 1, 0);
        load(0, 0, summary(2, 1, 0, 2));
        due(Wire.run(9, 1).length, "send", 0, 2, 0);
        due(Wire.run(0, 2).length, "send", 0, 1, 0);
        load(0, 0, summary(1, 0));
        x.call("send", 0, 3, 1);
        x.call("send", 0, 1, 0);
        due(x.call("octet", 1, -1), "octet", 0, -1);
        // In sync the summary is taken ahead of the patch: it tells of nothing, and the next one of all.
        due(3, "sync", 0, 3);
        x.call("send", 0, 3, 0);
        due(x.call("octet", 1, -1), "octet", 0, -1);
        due(0, "sync", 0, 3);
        due(14, "send", 0, 3, 0);
        // What one peer was told another does not know.
        x.call("send", 3, 0, 0);
        due(x.call("octet", 1, -1), "octet", 0, -1);
    }

    private void knownStays() {
        insert(0, 0, "ab");
        load(0, 0, summary(1, 1, 0, 2));
        load(ARGUMENT, 2, 0, summary(1, 2, 0, 1, 0, 1));
        load(ARGUMENT, 2, 0, summary(1, 0, 0));
        load(ARGUMENT, 1, 0, Arrays.copyOf(summary(1, 0), 7));
        due(14, "send", 0, 1, 0);
    }

    private void knownBelow() {
        insert(0, 0, "ab");
        load(0, 0, summary(1, 1, 0, 1));
        byte[] patch = Wire.patch(0, Wire.agents(0), Wire.plain("b"), span(1, 1, new int[] {0, 0}, 1, 0));
        due(patch.length, "send", 0, 1, 0);
        message(0, patch);
        load(0, 0, summary(1, 1, 0, 3));
        due(14, "send", 0, 1, 0);
    }

    private void columnsFill() {
        byte[] none = Wire.columns(ZERO, NOTHING, NOTHING, NOTHING, ZERO);
        load(0, 0, Wire.message(1, 0, none));
        load(ARGUMENT, 2, 0, Wire.message(1, 0, NOTHING));
        for (int size = 1; size < none.length; size++) {
            load(ARGUMENT, 2, 0, Wire.message(1, 0, Arrays.copyOf(none, size)));
        }
        load(ARGUMENT, 2, 0, Wire.message(1, 0, Wire.join(none, ZERO)));
        load(ARGUMENT, 2, 0, Wire.message(1, 0, Wire.bytes(1, 0, 0, 0, 0, 2, 0)));
        load(ARGUMENT, 2, 0, Wire.message(1, 0, Wire.bytes(1, 0, 0, 0, 0, 255, 255, 255, 255, 7, 0)));
        load(ARGUMENT, 2, 0, Wire.message(1, 0, Wire.bytes(1, 0, 0, 0, 0, 0x81, 0, 0)));
    }

    private void agentsMost() {
        byte[] all = Wire.varints(256);
        for (int k = 255; k >= 0; k--) {
            all = Wire.join(all, Wire.varints(k));
        }
        load(0, 0, Wire.message(1, 0, Wire.columns(all, NOTHING, NOTHING, NOTHING, ZERO)));
        // The last of these is agent 0.
        load(1, 0, Wire.patch(0, all, Wire.plain("a"), new Wire.Span(255, 0, 1, ROOT, 0, 0)));
        due(1, "events", 0, 0);
        byte[] more = Wire.join(Wire.varints(257), Arrays.copyOfRange(all, 2, all.length), Wire.varints(7));
        load(ARGUMENT, 2, 0, Wire.message(1, 0, Wire.columns(more, NOTHING, NOTHING, NOTHING, ZERO)));
    }

    private void agentsAsSaid() {
        byte[][] bad = {NOTHING, Wire.varints(1), Wire.varints(1, 256), Wire.varints(2, 7), Wire.varints(2, 7, 7),
            Wire.varints(3, 7, 8, 7), Wire.varints(1, 7, 8), Wire.varints(0, 0), Wire.bytes(1, 0x87, 0),
            Wire.varints(HIGH, 7), Wire.bytes(0x80)};
        for (byte[] agents : bad) {
            load(ARGUMENT, 2, 0, Wire.message(1, 0, Wire.columns(agents, NOTHING, NOTHING, NOTHING, ZERO)));
        }
        load(0, 0, Wire.message(1, 0, Wire.columns(Wire.varints(2, 255, 0), NOTHING, NOTHING, NOTHING, ZERO)));
    }

    private void textMost() {
        byte[] wide = Wire.bytes(0xf0, 0x9f, 0x98, 0x80);
        byte[] most = Wire.join(Wire.varints(32768, 8), wide, Wire.varints(2 * 32764 + 1, 4));
        // So many characters, but only one event: the text itself is right.
        load(ARGUMENT, 4, 0, withText(most));
        byte[] more = Wire.join(Wire.varints(32769, 8), wide, Wire.varints(2 * 32765 + 1, 4));
        load(ARGUMENT, 3, 0, withText(more));
        load(ARGUMENT, 3, 0, withText(Wire.varints(32769)));
        load(ARGUMENT, 3, 0, withText(Wire.varints(HIGH)));
        load(ARGUMENT, 3, 0, withText(NOTHING));
    }

    private void plainPieces() {
        byte[] a = "a".getBytes();
        load(ARGUMENT, 3, 0, withText(Wire.join(Wire.varints(1, 0), Wire.varints(2), a)));
        load(ARGUMENT, 3, 0, withText(Wire.join(Wire.varints(1, 2), a, Wire.varints(0))));
        load(ARGUMENT, 3, 0, withText(Wire.varints(1, 2)));
        load(ARGUMENT, 3, 0, withText(Wire.join(Wire.varints(1, 4), a)));
        load(ARGUMENT, 3, 0, withText(Wire.join(Wire.varints(1, HIGH - 1), a)));
        // Two pieces where one would do, and one that ends within a character.
        byte[] text = Wire.join(Wire.varints(4, 2), a, Wire.varints(2), a, Wire.varints(2), Wire.bytes(0xc3),
            Wire.varints(2), Wire.bytes(0xa9));
        load(3, 0, Wire.patch(0, NINE, text, span(0, 3, ROOT, 0, 0)));
        text(0, "aaé");
    }

    private void shortRepeats() {
        byte[] a = "a".getBytes();
        for (int n = 0; n < 4; n++) {
            byte[] text = Wire.join(Wire.varints(1 + n, 2), a, Wire.varints(2 * n + 1, 1));
            load(ARGUMENT, 3, 0, Wire.patch(0, NINE, text, span(0, 1 + n, ROOT, 0, 0)));
        }
        byte[] text = Wire.join(Wire.varints(5, 2), a, Wire.varints(9, 1));
        load(5, 0, Wire.patch(0, NINE, text, span(0, 5, ROOT, 0, 0)));
        text(0, "aaaaa");
    }

    private void distances() {
        byte[] abc = "abc".getBytes();
        for (int d : new int[] {0, 4, 5, HIGH}) {
            byte[] text = Wire.join(Wire.varints(7, 6), abc, Wire.varints(9, d));
            load(ARGUMENT, 3, 0, Wire.patch(0, NINE, text, span(0, 7, ROOT, 0, 0)));
        }
        load(ARGUMENT, 3, 0, Wire.patch(0, NINE, Wire.varints(4, 9, 1), span(0, 4, ROOT, 0, 0)));
        for (int d = 1; d < 4; d++) {
            byte[] text = Wire.join(Wire.varints(7, 6), abc, Wire.varints(9, d));
            load(7, d, Wire.patch(0, NINE, text, span(0, 7, ROOT, 0, 0)));
            text(d, d == 1 ? "abccccc" : d == 2 ? "abcbcbc" : "abcabca");
        }
    }

    private void justThese() {
        byte[] a = "a".getBytes();
        load(ARGUMENT, 3, 0, withText(Wire.join(Wire.varints(2, 2), a)));
        load(ARGUMENT, 3, 0, withText(Wire.join(Wire.varints(1, 4), a, a)));
        load(ARGUMENT, 3, 0, withText(Wire.join(Wire.varints(1, 2), a, a)));
        load(ARGUMENT, 3, 0, withText(Wire.join(Wire.varints(4, 2), a, Wire.varints(9, 1))));
        load(ARGUMENT, 3, 0, withText(Wire.join(Wire.varints(6, 2), a, Wire.varints(9, 1))));
        load(ARGUMENT, 3, 0, withText(Wire.varints(0, 0)));
        load(ARGUMENT, 3, 0, withText(Wire.join(Wire.varints(0, 2), a)));
        // A piece of five bytes, of which four are there: two pieces that would make five.
        load(ARGUMENT, 3, 0, run(5, Wire.join(Wire.varints(5, 10), Wire.varints(2), a, Wire.varints(9, 1))));
        load(ARGUMENT, 3, 0, run(6, Wire.join(Wire.varints(6, 2), a, Wire.varints(10), Wire.varints(2), a,
            Wire.varints(9, 1))));
        load(1, 0, withText(Wire.join(Wire.varints(1, 2), a)));
    }

    private void noText() {
        int[][] bad = {{0x80}, {0xc2}, {0xc0, 0x80}, {0xed, 0xa0, 0x80}, {0xf4, 0x90, 0x80, 0x80},
            {0xe0, 0x9f, 0xbf}, {0xff}, {97, 0xf0, 0x9f, 0x98}, {0x82, 0x80}, {0xbf, 0xbf}, {0xf8, 0x90, 0x80, 0x80}};
        for (int[] row : bad) {
            load(ARGUMENT, 3, 0, withText(Wire.plain(Wire.bytes(row))));
        }
        load(1, 0, withText(Wire.plain(Wire.bytes(0xf4, 0x8f, 0xbf, 0xbf))));
        due(1114111, "at", 0, 0);
    }

    private void spanLength() {
        byte[] none = Wire.plain("");
        load(ARGUMENT, 4, 0, Wire.patch(0, NINE, none, span(0, 0, ROOT, 0, 0)));
        load(ARGUMENT, 4, 0, Wire.patch(0, NINE, Wire.plain("a"), span(0, 1, ROOT, 0, 0), span(1, 0, null, 0, 1)));
        load(1, 0, Wire.patch(0, NINE, Wire.plain("a"), span(0, 1, ROOT, 0, 0)));
        // No span at all is right, too.
        load(0, 0, Wire.patch(0, NINE, none));
    }

    private void spansMost() {
        byte[] none = Wire.plain("");
        load(ARGUMENT, 4, 0, Wire.patch(0, NINE, none, span(0, 8193, ROOT, 0, 1)));
        load(ARGUMENT, 4, 0, Wire.patch(0, NINE, none, span(0, 8192, ROOT, 0, 1), span(8192, 1, null, 0, 1)));
        load(ARGUMENT, 4, 0, Wire.patch(0, NINE, none, span(0, 1, ROOT, 0, 1), span(1, 8192, null, 0, 1)));
        load(ARGUMENT, 4, 0, Wire.patch(0, NINE, none, span(0, HIGH, ROOT, 0, 1), span(1, HIGH, null, 0, 1)));
        // These are as said; but nothing is there that could be deleted.
        load(UNSUPPORTED, 6, 0, Wire.patch(0, NINE, none, span(0, 8192, ROOT, 0, 1)));
        load(UNSUPPORTED, 6, 0, Wire.patch(0, NINE, none, span(0, 1, ROOT, 0, 1), span(1, 8191, null, 0, 1)));
    }

    private void agentPlaces() {
        byte[] one = Wire.plain("a");
        load(ARGUMENT, 4, 0, Wire.patch(0, NINE, one, new Wire.Span(1, 0, 1, ROOT, 0, 0)));
        load(ARGUMENT, 4, 0, Wire.patch(0, Wire.agents(), one, span(0, 1, ROOT, 0, 0)));
        load(ARGUMENT, 4, 0, Wire.patch(0, NINE, one, span(0, 1, new int[] {1, 0}, 0, 0)));
        load(ARGUMENT, 4, 0, Wire.patch(0, NINE, one, new Wire.Span(9, 0, 1, ROOT, 0, 0)));
        load(1, 0, Wire.patch(0, Wire.agents(7, 9), one, new Wire.Span(1, 0, 1, ROOT, 0, 0)));
        due(1, "events", 0, 9);
        due(0, "events", 0, 7);
    }

    private void firstParent() {
        load(ARGUMENT, 4, 0, Wire.patch(0, NINE, Wire.plain("a"), span(0, 1, null, 0, 0)));
        load(2, 0, Wire.patch(0, NINE, Wire.plain("ab"), span(0, 1, ROOT, 0, 0), span(1, 1, null, -1, 0)));
        text(0, "ba");
        // Not even if all that it could go on from is known.
        load(ARGUMENT, 4, 0, Wire.patch(0, NINE, Wire.plain("c"), span(2, 1, null, 0, 0)));
    }

    private void indexBelow() {
        byte[] one = Wire.plain("a");
        byte[] none = Wire.plain("");
        load(ARGUMENT, 4, 0, Wire.patch(0, NINE, one, span(0, 1, ROOT, -1, 0)));
        load(ARGUMENT, 4, 0, Wire.patch(0, NINE, none, span(0, 1, ROOT, -1, 1)));
        load(ARGUMENT, 4, 0, Wire.patch(0, NINE, none, span(0, 2, ROOT, 0, 2)));
        load(ARGUMENT, 4, 0, Wire.patch(0, NINE, none, span(0, 5, ROOT, 3, 2)));
        load(ARGUMENT, 4, 0, Wire.patch(0, NINE, none, span(0, 1, ROOT, 3, 1), span(1, 1, null, -4, 1)));
        load(ARGUMENT, 4, 0, Wire.patch(0, NINE, Wire.plain("ab"), span(0, 2, ROOT, -1, 0)));
        load(3, 0, Wire.patch(0, NINE, Wire.plain("abc"), span(0, 3, ROOT, 0, 0)));
        load(3, 0, Wire.patch(0, NINE, none, span(3, 3, new int[] {0, 2}, 2, 2)));
        due(0, "length", 0);
    }

    private void spansFilled() {
        byte[] one = Wire.plain("a");
        byte[] row = Wire.varints(0, 0, 1);
        byte[] root = Wire.varints(1);
        byte[][][] bad = {
            {row, NOTHING, ZERO}, {row, root, NOTHING}, {NOTHING, root, ZERO}, {NOTHING, NOTHING, ZERO},
            {NOTHING, root, NOTHING}, {Wire.varints(0, 0), root, ZERO}, {Wire.varints(0), root, ZERO},
            {Wire.join(row, ZERO), root, ZERO}, {row, Wire.varints(1, 1), ZERO}, {row, root, Wire.varints(0, 0)},
            {row, Wire.varints(2), ZERO}, {row, Wire.varints(2, 0), ZERO}, {row, Wire.varints(HIGH), ZERO},
            {Wire.bytes(0, 0, 0x81, 0), root, ZERO}, {row, Wire.bytes(0x81, 0), ZERO}, {row, root, Wire.bytes(0x80, 0)},
            {row, root, Wire.bytes(0x80)}, {Wire.bytes(0, 255, 255, 255, 255, 8, 1), root, ZERO},
            {row, root, Wire.bytes(0x80, 0x80, 0x80, 0x80, 8)}
        };
        // A span that is wrong itself, with nothing for it in the other columns.
        for (byte[] alone : new byte[][] {Wire.varints(1, 0, 1), Wire.varints(0, 0, 0), Wire.varints(0, 0)}) {
            load(ARGUMENT, 4, 0, Wire.message(1, 0, Wire.columns(NINE, alone, NOTHING, NOTHING, ZERO)));
        }
        for (byte[][] columns : bad) {
            load(ARGUMENT, 4, 0, Wire.message(1, 0, Wire.columns(NINE, columns[0], columns[1], columns[2], one)));
        }
        load(1, 0, Wire.message(1, 0, Wire.columns(NINE, row, root, ZERO, one)));
    }

    private void otherNumber() {
        load(ARGUMENT, 4, 0, Wire.patch(0, NINE, Wire.plain("a"), span(0, 2, ROOT, 0, 0)));
        load(ARGUMENT, 4, 0, Wire.patch(0, NINE, Wire.plain("abc"), span(0, 2, ROOT, 0, 0)));
        load(ARGUMENT, 4, 0, Wire.patch(0, NINE, Wire.plain("a"), span(0, 1, ROOT, 0, 1)));
        load(ARGUMENT, 4, 0, Wire.patch(0, NINE, Wire.plain("a")));
        load(ARGUMENT, 4, 0, Wire.patch(0, NINE, Wire.plain(""), span(0, 1, ROOT, 0, 0)));
        // Characters count, not bytes.
        load(ARGUMENT, 4, 0, Wire.patch(0, NINE, Wire.plain("é"), span(0, 2, ROOT, 0, 0)));
        load(1, 0, Wire.patch(0, NINE, Wire.plain("é"), span(0, 1, ROOT, 0, 0)));
    }

    private void faultOrder() {
        byte[] bad = Wire.bytes(0x80);
        byte[] worst = Wire.columns(bad, bad, bad, bad, bad);
        byte[] framed = Wire.message(1, 0, worst);
        byte[] torn = framed.clone();
        torn[torn.length - 1] ^= 1;
        load(ARGUMENT, 1, 0, torn);
        load(ARGUMENT, 2, 0, framed);
        load(ARGUMENT, 2, 0, Wire.message(1, 0, Wire.join(Wire.columns(NINE, bad, bad, bad, bad), ZERO)));
        load(ARGUMENT, 3, 0, Wire.message(1, 0, Wire.columns(NINE, bad, bad, bad, bad)));
        load(ARGUMENT, 4, 0, Wire.message(1, 0, Wire.columns(NINE, bad, bad, bad, ZERO)));
        // What is wrong with an event is looked for behind all these: here in the second span.
        load(ARGUMENT, 4, 0, Wire.patch(0, NINE, Wire.plain(""), span(5, 1, new int[] {0, 9}, 7, 1),
            span(6, 0, null, 0, 1)));
    }

    private void nothingTaken() {
        // The first span is right, the second is not: not even the first comes in.
        load(ARGUMENT, 4, 0, Wire.patch(0, NINE, Wire.plain("ab"), span(0, 1, ROOT, 0, 0), span(1, 1, null, -2, 0)));
        load(ARGUMENT, 3, 0, Wire.patch(0, NINE, Wire.varints(2, 2, 97), span(0, 1, ROOT, 0, 0)));
        due(0, "events", 0, -1);
        due(MISSING, "head", 0, 0);
    }

    private void expectedIndex() {
        byte[] none = Wire.plain("");
        // 0 at first; behind inserting one more, behind KIND 1 the same, behind KIND 2 one less.
        load(7, 0, Wire.patch(0, NINE, Wire.plain("abcdefg"), span(0, 5, ROOT, 0, 0), span(5, 2, null, 0, 0)));
        text(0, "abcdefg");
        load(3, 0, Wire.patch(0, NINE, none, span(7, 1, new int[] {0, 6}, 4, 1), span(8, 1, null, 0, 1),
            span(9, 1, null, -1, 1)));
        text(0, "abcg");
        load(3, 0, Wire.patch(0, NINE, Wire.plain("z"), span(10, 2, new int[] {0, 9}, 1, 2), span(12, 1, null, 1, 0)));
        text(0, "zcg");
    }

    private void writtenOut() {
        byte[] text = Wire.plain("abc");
        load(3, 0, Wire.patch(0, NINE, text, span(0, 1, ROOT, 0, 0), span(1, 2, new int[] {0, 0}, 0, 0)));
        text(0, "abc");
        // As a peer writes it, these are one span.
        byte[] own = Wire.patch(0, NINE, text, span(0, 3, ROOT, 0, 0));
        due(own.length, "send", 0, -1, 0);
        message(0, own);
    }

    private void passedOver() {
        load(2, 0, Wire.patch(0, NINE, Wire.plain("ab"), span(0, 2, ROOT, 0, 0)));
        // Another character, a wrong index, parents that are not there, and deleting instead of inserting.
        load(0, 0, Wire.patch(0, NINE, Wire.plain("zz"), span(0, 2, new int[] {0, 99}, 500, 0)));
        load(0, 0, Wire.patch(0, NINE, Wire.plain(""), span(1, 1, new int[] {0, 0, 0, 0}, 7, 1)));
        text(0, "ab");
        // What goes on from one that was passed over hangs on the one that is there.
        load(1, 0, Wire.patch(0, NINE, Wire.plain("yc"), span(1, 2, new int[] {0, 99}, 1, 0)));
        text(0, "abc");
        due(1, "related", 0, 9, 1, 9, 2);
    }

    private void numberAbove() {
        byte[] one = Wire.plain("a");
        load(MISSING, 5, 0, Wire.patch(0, NINE, one, span(1, 1, ROOT, 0, 0)));
        load(MISSING, 5, 0, Wire.patch(0, NINE, one, span(HIGH, 1, ROOT, 0, 0)));
        load(MISSING, 5, 0, Wire.patch(0, NINE, Wire.plain("abc"), span(HIGH - 1, 3, ROOT, 0, 0)));
        load(1, 0, Wire.patch(0, NINE, one, span(0, 1, ROOT, 0, 0)));
        load(MISSING, 5, 0, Wire.patch(0, NINE, one, span(2, 1, new int[] {0, 0}, 1, 0)));
        load(1, 0, Wire.patch(0, NINE, one, span(1, 1, new int[] {0, 0}, 1, 0)));
    }

    private void parentMissing() {
        byte[] one = Wire.plain("c");
        byte[] both = Wire.agents(9, 8);
        load(2, 0, Wire.patch(0, NINE, Wire.plain("ab"), span(0, 2, ROOT, 0, 0)));
        load(MISSING, 5, 0, Wire.patch(0, both, one, span(2, 1, new int[] {0, 2}, 0, 0)));
        load(MISSING, 5, 0, Wire.patch(0, both, one, span(2, 1, new int[] {0, HIGH}, 0, 0)));
        load(MISSING, 5, 0, Wire.patch(0, both, one, span(2, 1, new int[] {1, 0}, 0, 0)));
        load(MISSING, 5, 0, Wire.patch(0, both, one, span(2, 1, new int[] {0, 1, 1, 0}, 2, 0)));
        load(1, 0, Wire.patch(0, both, one, span(2, 1, new int[] {0, 1}, 2, 0)));
        text(0, "abc");
    }

    private void parentsRelated() {
        byte[] one = Wire.plain("c");
        byte[] both = Wire.agents(9, 8);
        load(2, 0, Wire.patch(0, NINE, Wire.plain("ab"), span(0, 2, ROOT, 0, 0)));
        load(1, 0, Wire.patch(0, both, one, new Wire.Span(1, 0, 1, new int[] {0, 0}, 1, 0)));
        load(UNSUPPORTED, 6, 0, Wire.patch(0, both, one, span(2, 1, new int[] {0, 1, 0, 1}, 0, 0)));
        load(UNSUPPORTED, 6, 0, Wire.patch(0, both, one, span(2, 1, new int[] {0, 1, 0, 0}, 0, 0)));
        load(UNSUPPORTED, 6, 0, Wire.patch(0, both, one, span(2, 1, new int[] {0, 0, 0, 1}, 0, 0)));
        load(UNSUPPORTED, 6, 0, Wire.patch(0, both, one, span(2, 1, new int[] {1, 0, 0, 1, 0, 0}, 0, 0)));
        load(UNSUPPORTED, 6, 0, Wire.patch(0, both, one, span(2, 1, new int[] {1, 0, 0, 1, 1, 0}, 0, 0)));
        // Neither is an ancestor of the other; in which order they are written does not matter.
        load(1, 0, Wire.patch(0, both, one, span(2, 1, new int[] {0, 1, 1, 0}, 0, 0)));
        due(9 * AGENT + 2, "head", 0, 0);
        due(MISSING, "head", 0, 1);
        load(1, 0, Wire.patch(0, Wire.agents(7), one, span(0, 1, ROOT, 0, 0)));
        load(1, 0, Wire.patch(0, Wire.agents(9, 7), one, span(3, 1, new int[] {1, 0, 0, 2}, 0, 0)));
        due(9 * AGENT + 3, "head", 0, 0);
        due(MISSING, "head", 0, 1);
    }

    private void beforeNoAncestor() {
        byte[] one = Wire.plain("c");
        byte[] both = Wire.agents(9, 8);
        load(2, 0, Wire.patch(0, NINE, Wire.plain("ab"), span(0, 2, ROOT, 0, 0)));
        load(UNSUPPORTED, 6, 0, Wire.patch(0, NINE, one, span(2, 1, ROOT, 0, 0)));
        load(UNSUPPORTED, 6, 0, Wire.patch(0, NINE, one, span(2, 1, new int[] {0, 0}, 0, 0)));
        load(1, 0, Wire.patch(0, both, one, new Wire.Span(1, 0, 1, ROOT, 0, 0)));
        load(UNSUPPORTED, 6, 0, Wire.patch(0, both, one, span(2, 1, new int[] {1, 0}, 0, 0)));
        // An ancestor by way of another agent's event will do.
        load(1, 0, Wire.patch(0, both, one, new Wire.Span(1, 1, 1, new int[] {1, 0, 0, 1}, 0, 0)));
        load(1, 0, Wire.patch(0, both, one, span(2, 1, new int[] {1, 1}, 0, 0)));
    }

    private void deleteIndex() {
        byte[] none = Wire.plain("");
        load(2, 0, Wire.patch(0, NINE, Wire.plain("ab"), span(0, 2, ROOT, 0, 0)));
        load(UNSUPPORTED, 6, 0, Wire.patch(0, NINE, none, span(2, 1, new int[] {0, 1}, 2, 1)));
        load(UNSUPPORTED, 6, 0, Wire.patch(0, NINE, none, span(2, 1, new int[] {0, 1}, 357913940, 1)));
        load(UNSUPPORTED, 6, 0, Wire.patch(0, Wire.agents(8), none, span(0, 1, ROOT, 0, 1)));
        // What it sees is what counts: agent 8 sees only the first one.
        load(UNSUPPORTED, 6, 0, Wire.patch(0, Wire.agents(8, 9), none, span(0, 1, new int[] {1, 0}, 1, 1)));
        load(1, 0, Wire.patch(0, Wire.agents(8, 9), none, span(0, 1, new int[] {1, 0}, 0, 1)));
        text(0, "b");
        load(1, 0, Wire.patch(0, NINE, none, span(2, 1, new int[] {0, 1}, 1, 1)));
        due(0, "length", 0);
    }

    private void insertIndex() {
        byte[] one = Wire.plain("c");
        load(UNSUPPORTED, 6, 0, Wire.patch(0, NINE, one, span(0, 1, ROOT, 1, 0)));
        load(2, 0, Wire.patch(0, NINE, Wire.plain("ab"), span(0, 2, ROOT, 0, 0)));
        load(UNSUPPORTED, 6, 0, Wire.patch(0, NINE, one, span(2, 1, new int[] {0, 1}, 3, 0)));
        load(UNSUPPORTED, 6, 0, Wire.patch(0, NINE, one, span(2, 1, new int[] {0, 1}, 357913940, 0)));
        load(UNSUPPORTED, 6, 0, Wire.patch(0, Wire.agents(8, 9), one, span(0, 1, new int[] {1, 0}, 2, 0)));
        load(1, 0, Wire.patch(0, Wire.agents(8, 9), one, span(0, 1, new int[] {1, 0}, 1, 0)));
        load(1, 0, Wire.patch(0, NINE, one, span(2, 1, new int[] {0, 1}, 2, 0)));
        due(4, "length", 0);
    }

    /** Agents 8 and 9 by turns, each event in the text of its own ancestors. */
    private void seenByEach() {
        byte[] none = Wire.plain("");
        byte[] one = Wire.plain("x");
        byte[] both = Wire.agents(9, 8);
        load(4, 0, Wire.patch(0, NINE, Wire.plain("abcd"), span(0, 4, ROOT, 0, 0)));
        load(1, 0, Wire.patch(0, both, none, new Wire.Span(1, 0, 1, new int[] {0, 3}, 1, 1)));
        // Agent 9 sees four still, agent 8 three.
        load(UNSUPPORTED, 6, 0, Wire.patch(0, both, none, span(4, 1, new int[] {0, 3}, 4, 1)));
        load(UNSUPPORTED, 6, 0, Wire.patch(0, both, none, new Wire.Span(1, 1, 1, new int[] {1, 0}, 3, 1)));
        load(UNSUPPORTED, 6, 0, Wire.patch(0, both, one, new Wire.Span(1, 1, 1, new int[] {1, 0}, 4, 0)));
        load(1, 0, Wire.patch(0, both, none, span(4, 1, new int[] {0, 3}, 1, 1)));
        // Both have deleted b: with both among the ancestors three are seen.
        load(UNSUPPORTED, 6, 0, Wire.patch(0, both, one, span(5, 1, new int[] {0, 4, 1, 0}, 4, 0)));
        load(1, 0, Wire.patch(0, both, one, span(5, 1, new int[] {0, 4, 1, 0}, 3, 0)));
        text(0, "acdx");
        load(1, 0, Wire.patch(0, both, none, new Wire.Span(1, 1, 1, new int[] {1, 0}, 2, 1)));
        text(0, "acx");
    }

    private void noRoom() {
        byte[] two = Wire.plain("bc");
        load("8191", 0, 0, Wire.run(9, 8191));
        load(STATE, 7, 0, Wire.patch(0, NINE, two, span(8191, 2, new int[] {0, 8190}, 8191, 0)));
        due(8192, "events", 0, -1);
        due(98, "at", 0, 8191);
        // Known ones need no room.
        load(0, 0, Wire.patch(0, NINE, two, span(8190, 2, new int[] {0, 8189}, 8191, 0)));
        load(STATE, 7, 0, Wire.patch(0, NINE, two, span(8191, 2, new int[] {0, 8190}, 8191, 0)));
        load(STATE, 7, 0, Wire.patch(0, NINE, Wire.plain(""), span(8192, 1, new int[] {0, 8191}, 0, 1)));
        load(0, 0, summary(1, 1, 9, 8192));
    }

    private void noAgent() {
        int[] ids = new int[17];
        Wire.Span[] spans = new Wire.Span[17];
        for (int k = 0; k < 17; k++) {
            ids[k] = 100 + k;
            spans[k] = new Wire.Span(k, 0, 1, ROOT, k == 0 ? 0 : -1, 0);
        }
        load(STATE, 7, 0, Wire.patch(0, Wire.agents(ids), Wire.plain("abcdefghijklmnopq"), spans));
        due(16, "events", 0, -1);
        due(0, "events", 0, 116);
        // More of the sixteen come in; a list of agents may be longer.
        load(1, 0, Wire.patch(0, Wire.agents(ids), Wire.plain("z"), new Wire.Span(15, 1, 1, new int[] {15, 0}, 1, 0)));
        due(2, "events", 0, 115);
    }

    private void eventFaultOrder() {
        byte[] one = Wire.plain("c");
        byte[] both = Wire.agents(9, 8);
        load(2, 0, Wire.patch(0, NINE, Wire.plain("ab"), span(0, 2, ROOT, 0, 0)));
        // The parents stand twice, one is not there, the number is too large, and so is the index.
        load(MISSING, 5, 0, Wire.patch(0, both, one, span(3, 1, new int[] {0, 1, 0, 1}, 99, 0)));
        load(MISSING, 5, 0, Wire.patch(0, both, one, span(2, 1, new int[] {0, 1, 0, 1, 1, 0}, 99, 0)));
        load(UNSUPPORTED, 6, 0, Wire.patch(0, both, one, span(2, 1, new int[] {0, 1, 0, 1}, 99, 0)));
        load(UNSUPPORTED, 6, 0, Wire.patch(0, both, one, span(2, 1, new int[] {0, 1}, 99, 0)));
        due(2, "events", 0, -1);
    }

    private void eventsBefore() {
        byte[] text = Wire.plain("abc");
        load(MISSING, 5, 0, Wire.patch(0, NINE, text, span(0, 2, ROOT, 0, 0), span(3, 1, null, 0, 0)));
        text(0, "ab");
        due(2, "events", 0, 9);
        load(UNSUPPORTED, 6, 0, Wire.patch(0, NINE, Wire.plain(""), span(2, 3, new int[] {0, 1}, 0, 1)));
        due(0, "length", 0);
        due(4, "events", 0, -1);
        due(9 * AGENT + 3, "head", 0, 0);
        // At the first fault it ends: the span behind it would have been right.
        load(MISSING, 5, 1, Wire.patch(0, Wire.agents(9, 8), Wire.plain("ab"), span(1, 1, ROOT, 0, 0),
            new Wire.Span(1, 0, 1, ROOT, -1, 0)));
        due(0, "events", 1, -1);
    }

    private void fullFaultOrder() {
        byte[] one = Wire.plain("c");
        byte[] both = Wire.agents(9, 8);
        load("8192", 0, 0, Wire.run(9, 8192));
        load(MISSING, 5, 0, Wire.patch(0, NINE, one, span(8193, 1, new int[] {0, 8191}, 0, 0)));
        load(MISSING, 5, 0, Wire.patch(0, both, one, span(8192, 1, new int[] {1, 0}, 0, 0)));
        load(UNSUPPORTED, 6, 0, Wire.patch(0, both, one, span(8192, 1, new int[] {0, 8190}, 0, 0)));
        load(UNSUPPORTED, 6, 0, Wire.patch(0, both, one, span(8192, 1, new int[] {0, 8191}, 8193, 0)));
        load(STATE, 7, 0, Wire.patch(0, both, one, span(8192, 1, new int[] {0, 8191}, 8192, 0)));
        load(UNSUPPORTED, 6, 0, Wire.patch(0, both, one, new Wire.Span(1, 0, 1, ROOT, 1, 0)));
        load(STATE, 7, 0, Wire.patch(0, both, one, new Wire.Span(1, 0, 1, ROOT, 0, 0)));
    }

    private void announced(int peer, byte[] body) {
        byte[] message = Wire.message(2, peer, body);
        due(message.length, "announce", peer, 0);
        message(0, message);
    }

    private void announceCounts() {
        load(1, 3, Wire.run(255, 1));
        load(128, 3, Wire.run(128, 128));
        load(127, 3, Wire.run(127, 127));
        announced(3, Wire.varints(3, 127, 127, 128, 128, 255, 1));
        insert(3, 0, "ab");
        announced(3, Wire.varints(4, 3, 2, 127, 127, 128, 128, 255, 1));
    }

    private void announceReplaces() {
        insert(0, 0, "abcdefghijkl");
        byte[] patch = Wire.patch(0, Wire.agents(0), Wire.plain("abcdefghijkl"), span(0, 12, ROOT, 0, 0));
        due(patch.length, "send", 0, -1, 7);
        due(10, "announce", 0, 7);
        message(7, summary(0, 1, 0, 12));
        due(ARGUMENT, "octet", 7, 10);
        due(patch.length, "send", 0, -1, 7);
        message(7, patch);
    }

    private void sendNothing() {
        byte[] none = Wire.patch(2, Wire.agents(), Wire.plain(""));
        due(14, "send", 2, 3, 7);
        message(7, none);
        due(14, "send", 2, -1, 0);
        message(0, none);
        due(0, "take", 1, 0);
        due(0, "fault");
    }

    private void sendAll() {
        insert(0, 0, "ab");
        due(2, "sync", 0, 1);
        load(0, 0, summary(1, 1, 0, 2));
        due(14, "send", 0, 1, 0);
        byte[] all = Wire.patch(0, Wire.agents(0), Wire.plain("ab"), span(0, 2, ROOT, 0, 0));
        due(all.length, "send", 0, -1, 0);
        message(0, all);
        due(ARGUMENT, "send", 0, -2, 0);
        due(ARGUMENT, "send", 0, 4, 0);
    }

    private void sendItself() {
        insert(0, 0, "ab");
        due(Wire.run(0, 2).length, "send", 0, 0, 0);
        due(10, "announce", 0, 1);
        due(0, "take", 0, 1);
        due(14, "send", 0, 0, 0);
        insert(0, 2, "c");
        byte[] rest = Wire.patch(0, Wire.agents(0), Wire.plain("c"), span(2, 1, new int[] {0, 1}, 2, 0));
        due(rest.length, "send", 0, 0, 0);
        message(0, rest);
    }

    /** What peer 0 writes of its events behind the first so many. */
    private void sent(int known, String text, Wire.Span... spans) {
        load(0, 0, summary(1, 1, 0, known));
        byte[] patch = Wire.patch(0, Wire.agents(0), Wire.plain(text), spans);
        due(patch.length, "send", 0, 1, 0);
        message(0, patch);
    }

    private void sendSingle() {
        insert(0, 0, "abc");
        due(2, "delete", 0, 1, 1);
        sent(3, "", span(3, 1, new int[] {0, 2}, 1, 1));
        insert(0, 1, "d");
        due(2, "delete", 0, 2, 1);
        sent(4, "d", span(4, 1, new int[] {0, 3}, 1, 0), span(5, 1, null, 0, 1));
    }

    private void sendLongest() {
        insert(0, 0, "abcdefghij");
        for (int index : new int[] {5, 5, 4, 3, 3, 2, 1}) {
            x.call("delete", 0, index, 1);
        }
        // 5 5, then 4 3, then 3 2 1: each as long as can be, from the first on.
        sent(10, "", span(10, 2, new int[] {0, 9}, 5, 1), span(12, 2, null, -1, 2), span(14, 3, null, 3 - 2, 2));
    }

    private void sendBreaks() {
        insert(0, 0, "abcdef");
        for (int index : new int[] {0, 1, 3, 1}) {
            x.call("delete", 0, index, 1);
        }
        int[] before = {0, 5};
        sent(6, "", span(6, 1, before, 0, 1), span(7, 1, null, 1, 1), span(8, 1, null, 2, 1), span(9, 1, null, -2, 1));
    }

    private void sendAcross() {
        insert(0, 0, "ab");
        insert(0, 2, "c");
        insert(0, 3, "d");
        insert(0, 3, "e");
        insert(0, 3, "f");
        due(5, "delete", 0, 3, 1);
        due(4, "delete", 0, 3, 1);
        load(0, 0, summary(1, 0));
        byte[] patch = Wire.patch(0, Wire.agents(0), Wire.plain("abcdef"), span(0, 4, ROOT, 0, 0),
            span(4, 1, null, -1, 0), span(5, 1, null, -1, 0), span(6, 2, null, -1, 1));
        due(patch.length, "send", 0, 1, 0);
        message(0, patch);
    }

    private void sendOtherAgent() {
        insert(0, 0, "ab");
        due(2, "sync", 0, 1);
        insert(1, 2, "c");
        due(1, "sync", 1, 0);
        insert(0, 3, "d");
        byte[] patch = Wire.patch(0, Wire.agents(0, 1), Wire.plain("abcd"), span(0, 2, ROOT, 0, 0),
            new Wire.Span(1, 0, 1, null, 0, 0), span(2, 1, null, 0, 0));
        due(patch.length, "send", 0, -1, 0);
        message(0, patch);
    }

    private void sendOtherParent() {
        insert(0, 0, "a");
        due(1, "sync", 0, 1);
        insert(1, 0, "b");
        due(1, "sync", 1, 0);
        insert(0, 1, "c");
        // Peer 2 is said to have the event of peer 1 that is between the two.
        load(0, 0, summary(2, 1, 1, 1));
        byte[] patch = Wire.patch(0, Wire.agents(0, 1), Wire.plain("ac"), span(0, 1, ROOT, 0, 0),
            span(1, 1, new int[] {1, 0}, 0, 0));
        due(patch.length, "send", 0, 2, 0);
        message(0, patch);
        // And one with two parents does not go on either.
        insert(1, 0, "d");
        due(1, "sync", 1, 0);
        insert(0, 2, "e");
        load(0, 0, summary(2, 2, 0, 1, 1, 2));
        byte[] rest = Wire.patch(0, Wire.agents(0, 1), Wire.plain("ce"), span(1, 1, new int[] {1, 0}, 1, 0),
            span(2, 1, new int[] {0, 1, 1, 1}, 0, 0));
        due(rest.length, "send", 0, 2, 0);
        message(0, rest);
    }

    private void sendBelowZero() {
        insert(0, 0, "abc");
        for (int index : new int[] {2, 1, 0}) {
            x.call("delete", 0, index, 1);
        }
        insert(0, 0, "d");
        sent(3, "d", span(3, 3, new int[] {0, 2}, 2, 2), span(6, 1, null, 1, 0));
        x.call("send", 0, -1, 0);
        due(7, "take", 3, 0);
        text(3, "d");
    }

    private void sendParents() {
        load(3, 0, Wire.patch(0, Wire.agents(200, 9, 100), Wire.plain("abc"), new Wire.Span(0, 0, 1, ROOT, 0, 0),
            new Wire.Span(1, 0, 1, ROOT, -1, 0), new Wire.Span(2, 0, 1, ROOT, -1, 0)));
        insert(0, 0, "d");
        // By rising ids the parents are 9, 100, 200; but 200 was met first.
        byte[] all = Wire.patch(0, Wire.agents(200, 9, 100, 0), Wire.plain("abcd"), new Wire.Span(0, 0, 1, ROOT, 0, 0),
            new Wire.Span(1, 0, 1, ROOT, -1, 0), new Wire.Span(2, 0, 1, ROOT, -1, 0),
            new Wire.Span(3, 0, 1, new int[] {1, 0, 2, 0, 0, 0}, -1, 0));
        due(all.length, "send", 0, -1, 0);
        message(0, all);
        load(0, 0, summary(1, 3, 9, 1, 100, 1, 200, 1));
        byte[] own = Wire.patch(0, Wire.agents(0, 9, 100, 200), Wire.plain("d"),
            span(0, 1, new int[] {1, 0, 2, 0, 3, 0}, 0, 0));
        due(own.length, "send", 0, 1, 0);
        message(0, own);
    }

    /** Parents that a message told in another order are written by rising ids all the same. */
    private void sendSortedParents() {
        Wire.Span[] spans = {span(0, 1, ROOT, 0, 0), new Wire.Span(1, 0, 1, ROOT, -1, 0),
            new Wire.Span(2, 0, 1, ROOT, -1, 0), span(1, 1, new int[] {2, 0, 1, 0, 0, 0}, -1, 0)};
        byte[] agents = Wire.agents(7, 8, 9);
        byte[] text = Wire.plain("abcd");
        load(4, 0, Wire.patch(0, agents, text, spans));
        spans[3].parents = new int[] {0, 0, 1, 0, 2, 0};
        byte[] sorted = Wire.patch(0, agents, text, spans);
        due(sorted.length, "send", 0, -1, 0);
        message(0, sorted);
        for (int[] parents : new int[][] {{1, 0, 0, 0, 2, 0}, {2, 0, 0, 0, 1, 0}, {0, 0, 2, 0, 1, 0}}) {
            spans[3].parents = parents;
            int peer = 1 + parents[0] % 3;
            load(4, peer, Wire.patch(0, agents, text, spans));
            spans[3].parents = new int[] {0, 0, 1, 0, 2, 0};
            due(sorted.length, "send", peer, -1, 0);
            message(0, Wire.patch(peer, agents, text, spans));
        }
    }

    private void packed(int slot, String text, byte[] packed) {
        feed(text);
        due(text.codePointCount(0, text.length()), "insert", slot, 0);
        byte[] patch = Wire.patch(slot, Wire.agents(slot), packed,
            span(0, text.codePointCount(0, text.length()), ROOT, 0, 0));
        due(patch.length, "send", slot, -1, slot);
        byte[] tail = Arrays.copyOfRange(patch, patch.length - packed.length - 4, patch.length);
        for (int k = 0; k < tail.length; k++) {
            due(tail[k] & 255, "octet", slot, patch.length - tail.length + k);
        }
    }

    private void packSizes() {
        packed(0, "abcxabcy1234!1234", Wire.join(Wire.varints(17, 26), "abcxabcy1234!".getBytes(), Wire.varints(9, 5)));
        packed(1, "abcdxabcdy", Wire.join(Wire.varints(10, 10), "abcdx".getBytes(), Wire.varints(9, 5, 2),
            "y".getBytes()));
        packed(2, "a".repeat(65), Wire.join(Wire.varints(65, 2), "a".getBytes(), Wire.varints(129, 1)));
        // Behind 64 at once three are left, which are too few.
        packed(3, "a".repeat(68), Wire.join(Wire.varints(68, 2), "a".getBytes(), Wire.varints(129, 1, 6),
            "aaa".getBytes()));
    }

    private void packNearest() {
        packed(0, "abcd1abcd2abcd3", Wire.join(Wire.varints(15, 10), "abcd1".getBytes(), Wire.varints(9, 5, 2),
            "2".getBytes(), Wire.varints(9, 5, 2), "3".getBytes()));
        // The nearer one has four bytes, the one behind it five.
        packed(1, "abcde1abcd2abcde3", Wire.join(Wire.varints(17, 12), "abcde1".getBytes(), Wire.varints(9, 6, 2),
            "2".getBytes(), Wire.varints(11, 11, 2), "3".getBytes()));
    }

    private void packPlain() {
        packed(0, "a", Wire.plain("a"));
        packed(1, "abcdefgh".repeat(8), Wire.join(Wire.varints(64, 16), "abcdefgh".getBytes(), Wire.varints(113, 8)));
        String plain = "0123456789abcdefghijklmnopqrstuvwxyzABCDEFGHIJKLMNOPQRSTUVWXYZ!?";
        // A piece of 64 bytes and more has a number of two bytes in front.
        packed(2, plain, Wire.plain(plain));
    }

    private void packWide() {
        // The bytes are what repeats: three of the four of the second are in the first.
        packed(0, "😀😁", Wire.plain("😀😁"));
        packed(1, "é中é中", Wire.join(Wire.varints(10, 10), "é中".getBytes(StandardCharsets.UTF_8),
            Wire.varints(11, 5)));
        due(4, "take", 2, 1);
        text(2, "é中é中");
    }

    /** Every bit of a character, set or not, at each of the widths. */
    private void sendSymbols() {
        int[] codes = {0, 0x2a, 0x55, 0x7f, 0x80, 0xaa, 0x155, 0x2aa, 0x400, 0x555, 0x7ff, 0x800, 0x1555, 0x2aaa, 0x5555,
            0xaaaa, 0xc000, 0xfff0, 0xffff, 0x10000, 0x2aaaa, 0x55555, 0xaaaaa, 0xfffff, 0x100000, 0x105555, 0x10aaaa,
            0x10ffff};
        String text = new String(codes, 0, codes.length);
        packed(3, text, Wire.plain(text));
        due(codes.length, "take", 2, 3);
        text(2, text);
    }

    /** A patch unpacks to what a peer cannot pack: it repeats from further back than a peer looks. */
    private static byte[] tooLong() {
        return tooLong(8192);
    }

    private static byte[] tooLong(int characters) {
        byte[] base = new byte[4100];
        for (int k = 0; k < 1025; k++) {
            int code = 0x10000 + (k * 7919 % 1021) * 1021 + k;
            byte[] symbol = new String(Character.toChars(code)).getBytes(StandardCharsets.UTF_8);
            System.arraycopy(symbol, 0, base, 4 * k, 4);
        }
        int more = 4 * characters - base.length;
        byte[] text = Wire.join(Wire.varints(4 * characters, 2 * 4100), base, Wire.varints(2 * more + 1, 4100));
        return Wire.patch(2, NINE, text, span(0, characters, ROOT, 0, 0));
    }

    private void sendTooLong() {
        load("8192", 0, 0, tooLong());
        due(8, "announce", 1, 3);
        due(STATE, "send", 0, -1, 3);
        due(STATE, "send", 0, 0, 3);
        due(STATE, "send", 0, -1, 4);
        // Numbers out of range are told ahead of that.
        due(ARGUMENT, "send", 0, -1, 8);
        due(ARGUMENT, "send", 0, 4, 3);
        message(3, summary(1, 0));
        due(MISSING, "octet", 4, -1);
        load(0, 0, summary(1, 1, 9, 8000));
        // 192 characters of four bytes, and 31 bytes round them.
        due(799, "send", 0, 1, 3);
    }

    private void takeNone() {
        for (int slot = 0; slot < 8; slot++) {
            due(MISSING, "take", 0, slot);
        }
        due(ARGUMENT, "take", 0, 8);
        due(ARGUMENT, "take", 4, 0);
        due(8, "announce", 0, 0);
        due(0, "take", 0, 0);
        due(MISSING, "take", 0, 1);
    }

    private void takeAgain() {
        insert(0, 0, "ab");
        byte[] patch = Wire.patch(0, Wire.agents(0), Wire.plain("ab"), span(0, 2, ROOT, 0, 0));
        due(patch.length, "send", 0, -1, 6);
        due(2, "take", 1, 6);
        due(0, "take", 1, 6);
        due(0, "take", 0, 6);
        due(2, "take", 2, 6);
        message(6, patch);
        // The slot's message is not the peer's graph: what is written later is not in it.
        insert(0, 2, "c");
        due(2, "take", 3, 6);
    }

    private void takeSummary() {
        insert(0, 0, "ab");
        due(10, "announce", 0, 0);
        due(0, "take", 1, 0);
        due(0, "events", 1, -1);
        due(0, "fault");
        due(14, "send", 1, 0, 1);
    }

    private void takeFaults() {
        insert(0, 0, "ab");
        due(2, "sync", 0, 1);
        insert(0, 2, "c");
        due(10, "announce", 1, 0);
        due(0, "take", 0, 0);
        x.call("send", 0, 1, 2);
        due(MISSING, "take", 2, 2);
        due(5, "fault");
        due(0, "events", 2, -1);
        due(1, "take", 1, 2);
        due(0, "fault");
        due(87, "alter", 2, 0, 86);
        due(ARGUMENT, "take", 1, 2);
        due(1, "fault");
        // Peer 3 has another event (0, 0): what peer 0 writes behind its own does not fit there.
        load(1, 3, Wire.patch(0, Wire.agents(0), Wire.plain("q"), span(0, 1, ROOT, 0, 0)));
        load(1, 3, Wire.patch(0, Wire.agents(0), Wire.plain(""), span(1, 1, new int[] {0, 0}, 0, 1)));
        due(86, "alter", 2, 0, 87);
        due(UNSUPPORTED, "take", 3, 2);
        due(6, "fault");
    }

    private void takeForged() {
        byte[] text = Wire.plain("ab");
        byte[] own = Wire.agents(0);
        insert(0, 0, "ab");
        due(Wire.patch(0, own, text, span(0, 2, ROOT, 0, 0)).length, "send", 0, -1, 0);
        forged(ARGUMENT, 2, Wire.patch(0, Wire.varints(2, 0), text, span(0, 2, ROOT, 0, 0)));
        forged(ARGUMENT, 3, Wire.patch(0, own, Wire.join(Wire.varints(3, 4), "ab".getBytes()), span(0, 2, ROOT, 0, 0)));
        forged(ARGUMENT, 4, Wire.patch(0, own, text, span(0, 3, ROOT, 0, 0)));
        forged(MISSING, 5, Wire.patch(0, own, text, span(1, 2, ROOT, 0, 0)));
        forged(UNSUPPORTED, 6, Wire.patch(0, own, text, span(0, 2, ROOT, 1, 0)));
        due(0, "events", 1, -1);
        forged("2", 0, Wire.patch(3, Wire.agents(7), Wire.plain("zb"), span(0, 2, ROOT, 0, 0)));
        text(1, "zb");
        due(7 * AGENT + 1, "blame", 1, 1);
    }

    /** Alters the message of slot 0, byte by byte, to another one of its size, which peer 1 takes. */
    private void forged(String want, int fault, byte[] content) {
        due(content.length, "octet", 0, -1);
        for (int k = 0; k < content.length; k++) {
            x.call("alter", 0, k, content[k] & 255);
        }
        due(want, "take", 1, 0);
        due(fault, "fault");
    }

    private void loadEmpties() {
        load(ARGUMENT, 1, 0, Wire.bytes(1, 2, 3));
        due(0, "end", 0);
        load(1, 0, Wire.run(9, 1));
        due(0, "end", 0);
        load(MISSING, 5, 0, Wire.patch(0, NINE, Wire.plain("a"), span(5, 1, ROOT, 0, 0)));
        due(0, "end", 0);
        load(UNSUPPORTED, 6, 0, Wire.patch(0, NINE, Wire.plain("a"), span(1, 1, ROOT, 0, 0)));
        due(0, "end", 0);
        due(MISSING, "octet", 0, -1);
    }

    private void loadEmpty() {
        due(ARGUMENT, "load", 0);
        due(1, "fault");
        due(0, "end", 0);
    }

    private void loadRange() {
        byte[] good = Wire.run(9, 1);
        feed(good);
        due(ARGUMENT, "load", 4);
        due(ARGUMENT, "load", -1);
        due(0, "fault");
        due(0, "crossed");
        due(0, "end", good.length);
        due(1, "load", 3);
        due(-1, "crossed");
    }

    private void syncItself() {
        due(0, "sync", 0, 0);
        insert(0, 0, "ab");
        load(ARGUMENT, 1, 1, Wire.bytes(1));
        due(0, "sync", 0, 0);
        due(0, "fault");
        due(2, "events", 0, -1);
        // It knows of itself then what its own summary told.
        due(14, "send", 0, 0, 0);
    }

    private void syncNoSlot() {
        insert(0, 0, "ab");
        feed("x");
        due(2, "sync", 0, 1);
        for (int slot = 0; slot < 8; slot++) {
            due(MISSING, "octet", slot, -1);
        }
        due(0, "end", 1);
        due(0, "sync", 0, 1);
        due(0, "sync", 1, 0);
        due(0, "crossed");
    }

    private void syncWrong() {
        insert(0, 0, "ab");
        load(1, 1, Wire.patch(0, Wire.agents(0), Wire.plain("q"), span(0, 1, ROOT, 0, 0)));
        // Peer 1 has one event of agent 0, so the second one comes, and fits the other first one as well.
        due(1, "sync", 0, 1);
        load(2, 2, Wire.patch(0, Wire.agents(0), Wire.plain("q"), span(0, 1, ROOT, 0, 0), span(1, 1, null, -1, 1)));
        insert(0, 2, "c");
        due(UNSUPPORTED, "sync", 0, 2);
        due(6, "fault");
        due(2, "events", 2, -1);
    }

    private void syncNoRoom() {
        load("8191", 0, 1, Wire.run(9, 8191));
        insert(0, 0, "abc");
        due(STATE, "sync", 0, 1);
        due(7, "fault");
        due(8192, "events", 1, -1);
        due(1, "events", 1, 0);
        due(STATE, "sync", 0, 1);
        due(7, "fault");
    }

    private void syncTooLong() {
        load("8192", 0, 0, tooLong());
        load(0, 0, summary(1, 1, 9, 8192));
        load(ARGUMENT, 1, 2, Wire.bytes(1));
        due(14, "send", 0, 1, 0);
        due(STATE, "sync", 0, 1);
        due(0, "fault");
        due(0, "events", 1, -1);
        // The summary of peer 1, which has nothing, was taken.
        due(STATE, "send", 0, 1, 0);
        due(14, "octet", 0, -1);
    }

    /** All events would be too long for a patch, but not those that the other one lacks. */
    private void syncShort() {
        load("8190", 0, 0, tooLong(8190));
        load("8190", 0, 1, tooLong(8190));
        due(STATE, "send", 0, -1, 0);
        insert(0, 3, "b");
        due(STATE, "sync", 0, 2);
        due(1, "sync", 0, 1);
        due(0, "sync", 0, 1);
        due(0, "fault");
        due('b', "at", 1, 3);
    }

    private void faultLatest() {
        load(ARGUMENT, 1, 0, NOTHING);
        load(ARGUMENT, 2, 0, summary(0, 1));
        load(ARGUMENT, 3, 0, withText(Wire.varints(1)));
        load(ARGUMENT, 4, 0, withText(ZERO));
        load(MISSING, 5, 0, Wire.patch(0, NINE, Wire.plain("a"), span(1, 1, ROOT, 0, 0)));
        load(UNSUPPORTED, 6, 0, Wire.patch(0, NINE, Wire.plain("a"), span(0, 1, ROOT, 1, 0)));
        load(0, 0, summary(0, 0));
        load(UNSUPPORTED, 6, 0, Wire.patch(0, NINE, Wire.plain("a"), span(0, 1, ROOT, 1, 0)));
        due(0, "sync", 1, 2);
        due(0, "fault");
    }

    private void faultStays() {
        load(ARGUMENT, 1, 0, Wire.bytes(1));
        due(MISSING, "take", 0, 0);
        due(ARGUMENT, "take", 4, 0);
        due(ARGUMENT, "take", 0, 8);
        due(ARGUMENT, "load", 4);
        due(ARGUMENT, "sync", 0, 4);
        due(ARGUMENT, "sync", -1, 0);
        // Nor do other calls change it.
        insert(0, 0, "ab");
        due(10, "announce", 0, 0);
        due(Wire.run(0, 2).length, "send", 0, -1, 0);
        due(2, "undo", 0);
        due(1, "fault");
    }

    private void crossedAlter() {
        due(8, "announce", 0, 0);
        due(0, "alter", 0, 2, 0);
        due(87, "alter", 0, 0, 87);
        due(ARGUMENT, "alter", 0, 8, 1);
        due(ARGUMENT, "alter", 0, 0, 256);
        due(MISSING, "alter", 1, 0, 1);
        due(0, "crossed");
        due(0, "alter", 0, 2, 1);
        due(-1, "crossed");
        due(1, "alter", 0, 2, 0);
        due(-1, "crossed");
        // Once it was so, it stays so.
        due(0, "alter", 0, 2, 0);
        due(8, "announce", 0, 0);
        due(0, "take", 1, 0);
        due(-1, "crossed");
    }

    private void crossedLoad() {
        due(ARGUMENT, "load", -1);
        due(0, "crossed");
        due(ARGUMENT, "load", 0);
        due(-1, "crossed");
        due(0, "sync", 0, 1);
        due(8, "announce", 0, 0);
        due(0, "alter", 0, 2, 0);
        due(-1, "crossed");
    }

    private void crossedNever() {
        due(0, "crossed");
        for (int p = 0; p < 4; p++) {
            insert(p, 0, "abc".substring(0, p % 3 + 1));
        }
        for (int p = 0; p < 4; p++) {
            x.call("sync", p, (p + 1) % 4);
            x.call("delete", (p + 1) % 4, 0, 1);
            insert((p + 1) % 4, 1, "xy");
            due(0, "crossed");
        }
        for (int p = 0; p < 16; p++) {
            x.call("sync", p % 4, p / 4);
        }
        due(0, "crossed");
    }

    private void slotsEmpty() {
        for (int slot = 0; slot < 8; slot++) {
            due(MISSING, "octet", slot, -1);
            due(MISSING, "octet", slot, 0);
            due(MISSING, "alter", slot, 0, 0);
            due(8, "announce", 0, slot);
            due(8, "octet", slot, -1);
        }
        due(ARGUMENT, "octet", 8, -1);
        due(ARGUMENT, "octet", -1, -1);
    }

    private void alterValues() {
        due(8, "announce", 3, 7);
        due(87, "alter", 7, 0, 255);
        due(255, "alter", 7, 0, 128);
        due(128, "octet", 7, 0);
        due(128, "alter", 7, 0, 0);
        due(0, "alter", 7, 0, 87);
        due(ARGUMENT, "alter", 7, 0, 256);
        due(ARGUMENT, "alter", 7, 0, -1);
        due(87, "octet", 7, 0);
        // A byte turned back: the message is as it was.
        due(0, "take", 0, 7);
        int last = Integer.parseInt(x.call("octet", 7, 7));
        due(last, "alter", 7, 7, last ^ 255);
        due(last ^ 255, "octet", 7, 7);
        due(ARGUMENT, "take", 0, 7);
    }

    private void alterPlaces() {
        due(MISSING, "alter", 0, 0, 0);
        due(MISSING, "alter", 0, HIGH, 255);
        due(ARGUMENT, "alter", 0, 0, 256);
        due(ARGUMENT, "alter", 8, 0, 0);
        due(8, "announce", 0, 0);
        due(87, "alter", 0, 0, 87);
        due(ARGUMENT, "alter", 0, 8, 0);
        due(ARGUMENT, "alter", 0, -1, 0);
        due(ARGUMENT, "alter", 0, HIGH, 0);
        due(ARGUMENT, "alter", 0, LOW, 0);
        due(8, "octet", 0, -1);
    }

    private void octetPlaces() {
        due(MISSING, "octet", 0, -1);
        due(MISSING, "octet", 0, HIGH);
        due(ARGUMENT, "octet", 0, -2);
        due(ARGUMENT, "octet", 0, LOW);
        due(8, "announce", 0, 0);
        due(8, "octet", 0, -1);
        due(87, "octet", 0, 0);
        message(0, summary(0, 0));
        due(ARGUMENT, "octet", 0, 8);
        due(ARGUMENT, "octet", 0, HIGH);
        due(ARGUMENT, "octet", 0, -2);
    }
}
