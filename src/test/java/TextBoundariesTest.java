import java.nio.charset.StandardCharsets;
import java.util.Arrays;
import java.util.function.Consumer;

/**
 * Each sentence of promises 1 to 22, and of the terms that they rest on, that names a boundary case: too
 * small, too large, empty, full, a wrap-around, a refused call. The name of a test is the promise and what
 * the sentence says. (Numbers out of range, call by call, are in RangesTest.)
 */
public final class TextBoundariesTest extends Bench {
    private static final int[] ROOT = {};

    private TextBoundariesTest(Calls x, String name) {
        super(x, name);
    }

    public static void main(String[] args) {
        both("terms: the root is before all", TextBoundariesTest::rootIsFirst);
        for (int[] order : new int[][] {{5, 6, 7}, {5, 7, 6}, {6, 5, 7}, {6, 7, 5}, {7, 5, 6}, {7, 6, 5}}) {
            both("terms: at the left, ordered by their ids", t -> t.siblings(1, "a556677b", order));
            both("terms: at the right, ordered by their ids", t -> t.siblings(2, "ab556677", order));
            both("terms: below the root, ordered by their ids", t -> t.rootSiblings(order));
        }
        both("terms: deleted ones too", TextBoundariesTest::deletedOnesToo);
        both("terms: one that others may have deleted, too", TextBoundariesTest::deletedTwice);
        both("terms: characters", TextBoundariesTest::characters);
        both("terms: the shortest form", TextBoundariesTest::shortestForm);
        both("terms: a first byte and as many in all", TextBoundariesTest::cutForms);
        for (int first = 0; first < 256; first += 16) {
            int from = first;
            real("terms: a first byte for two, three or four", t -> t.firstBytes(from));
        }
        both("terms: the parents of the first one are the heads", TextBoundariesTest::ownParents);
        both("terms: sixteen heads are the parents", TextBoundariesTest::ownSixteenParents);
        both("1 new: two objects share nothing", TextBoundariesTest::newObjects);
        both("2 feed: the highest of each first", TextBoundariesTest::feedOrder);
        beyond("2 feed: more than 32768", TextBoundariesTest::feedFull);
        both("3 end: it has less", TextBoundariesTest::endEdges);
        both("3 end: an empty tape", TextBoundariesTest::endEmpty);
        writing();
        reading();
        graphs();
        bookmarks();
        anchors();
        finish("the boundaries of texts");
    }

    private static void writing() {
        both("4 insert: an index 0 .. length", TextBoundariesTest::insertIndex);
        both("4 insert: 0 for an empty tape", TextBoundariesTest::insertEmpty);
        both("4 insert: it is no text", TextBoundariesTest::insertNoText);
        both("4 insert: the tape stays if a number is out of range", TextBoundariesTest::insertTapeStays);
        real("4 insert: no room for so many events", TextBoundariesTest::insertNoRoom);
        real("4 insert: no text is told ahead of no room", TextBoundariesTest::insertNoTextNoRoom);
        both("4 insert: no room for the peer's agent", TextBoundariesTest::insertNoAgent);
        both("4 insert: the peer's agent is the sixteenth", TextBoundariesTest::insertLastAgent);
        both("5 delete: n 1 or above, all there", TextBoundariesTest::deleteEdges);
        both("5 delete: each at this index", TextBoundariesTest::deleteAll);
        real("5 delete: no room for so many events", TextBoundariesTest::deleteNoRoom);
        both("5 delete: no room for the agent of its events", TextBoundariesTest::deleteNoAgent);
        both("6 undo: there is no such call", TextBoundariesTest::undoNothing);
        both("6 undo: a call that made events", TextBoundariesTest::undoCallsThatMadeNone);
        both("6 undo: it may be none", TextBoundariesTest::undoNone);
        both("6 undo: an undo is no such call itself", TextBoundariesTest::undoIsNoCall);
        both("6 undo: of a peer", TextBoundariesTest::undoOwnOnly);
        both("6 undo: the last in order first, each at its index", TextBoundariesTest::undoInsertOrder);
        both("6 undo: the first in order first", TextBoundariesTest::undoDeleteOrder);
        both("6 undo: a delete's nodes that others deleted, too", TextBoundariesTest::undoDeletedTwice);
        real("6 undo: no room for so many", TextBoundariesTest::undoNoRoom);
        real("6 undo: none needs no room", TextBoundariesTest::undoNoneInFull);
    }

    private static void reading() {
        both("7 length: empty", t -> t.due(0, "length", 3));
        real("7 length: full", TextBoundariesTest::lengthFull);
        both("8 at: the first and the last", TextBoundariesTest::atEdges);
        both("9 line: behind each character 10", TextBoundariesTest::lineEnds);
        both("9 line: no such line", TextBoundariesTest::noSuchLine);
        both("10 find: from 0 .. length", TextBoundariesTest::findFrom);
        both("10 find: -1 if there is none", TextBoundariesTest::findNone);
        both("10 find: deleted ones do not stand in the text", TextBoundariesTest::findDeleted);
        both("10 find: an empty tape", TextBoundariesTest::findEmpty);
        both("10 find: it is no text", TextBoundariesTest::findNoText);
        both("11 blame: 2^32 times the agent", TextBoundariesTest::blameEdges);
    }

    private static void graphs() {
        both("12 events: of one agent, or in all for -1", TextBoundariesTest::eventsEdges);
        both("13 head: no such head", TextBoundariesTest::headEdges);
        real("13 head: sixteen of them", TextBoundariesTest::headsMost);
        both("14 related: one is not there", TextBoundariesTest::relatedMissing);
        both("14 related: an agent beyond 0 .. 255 is out of range", TextBoundariesTest::relatedRange);
        both("14 related: 0, 1, 2, 3", TextBoundariesTest::relatedAnswers);
        both("15 critical: none, one, all", TextBoundariesTest::criticalEdges);
        both("15 critical: every other one", TextBoundariesTest::criticalBranches);
    }

    private static void bookmarks() {
        both("16 mark: bookmarks 0 .. 7", TextBoundariesTest::markAll);
        both("16 mark: a graph as it is now", TextBoundariesTest::markNow);
        both("17 view: a later mark changes nothing of it", TextBoundariesTest::viewStays);
        both("16 mark: of another peer then", TextBoundariesTest::markOther);
        both("17 view: others delete the same one later", TextBoundariesTest::viewDeletedTwice);
        both("17 view: there is none", TextBoundariesTest::viewNone);
        both("18 viewed: empty at first", TextBoundariesTest::viewedEmpty);
        both("18 viewed: there is none", TextBoundariesTest::viewedEdges);
        both("19 differ: one hunk between two neighbours", TextBoundariesTest::differNeighbours);
        both("19 differ: before the first, behind the last", TextBoundariesTest::differEnds);
        both("19 differ: nothing in both", TextBoundariesTest::differAll);
        both("19 differ: nothing differs", TextBoundariesTest::differNothing);
        both("19 differ: in neither text", TextBoundariesTest::differNeither);
        both("19 differ: in neither text, between two that are", TextBoundariesTest::differAcross);
        both("19 differ: they stay until the next answer", TextBoundariesTest::hunksStay);
        both("19 differ: a bookmark is none, ahead of two peers", TextBoundariesTest::differNone);
        both("20 hunk: no such hunk, another what first", TextBoundariesTest::hunkEdges);
    }

    private static void anchors() {
        both("21 anchor: at its end", TextBoundariesTest::anchorEnd);
        both("21 anchor: set again", TextBoundariesTest::anchorAgain);
        both("22 place: deleted or not", TextBoundariesTest::placeDeleted);
        both("22 place: there is none", TextBoundariesTest::placeNone);
        both("22 place: in the peer's text", TextBoundariesTest::placePeer);
    }

    private static void both(String name, Consumer<TextBoundariesTest> test) {
        real(name, test);
        test.accept(new TextBoundariesTest(new Model(), name + " (model)"));
    }

    /** For what is too much for the model. */
    private static void real(String name, Consumer<TextBoundariesTest> test) {
        TextBoundariesTest one = new TextBoundariesTest(new Real(), name);
        test.accept(one);
        one.withinCalls();
    }

    /** For what can be reached by more than 512 calls alone. */
    private static void beyond(String name, Consumer<TextBoundariesTest> test) {
        test.accept(new TextBoundariesTest(new Real(), name));
        test.accept(new TextBoundariesTest(new Model(), name + " (model)"));
    }

    private void bytes(int... values) {
        feed(Wire.bytes(values));
    }

    /** So many agents with one character each; none knows of another. */
    private static byte[] crowd(int first, int count) {
        int[] ids = new int[count];
        Wire.Span[] spans = new Wire.Span[count];
        for (int k = 0; k < count; k++) {
            ids[k] = first + k;
            spans[k] = new Wire.Span(k, 0, 1, ROOT, k == 0 ? 0 : -1, 0);
        }
        return Wire.patch(0, Wire.agents(ids), Wire.plain("abcdefghijklmnopq".substring(0, count)), spans);
    }

    private void rootIsFirst() {
        insert(1, 0, "b");
        insert(1, 0, "a");
        // Both hang on the root, at its right, for neither knows of the other; then by their ids.
        insert(0, 0, "z");
        due(1, "sync", 0, 1);
        text(1, "zab");
        due(2, "sync", 1, 0);
        text(0, "zab");
        // With all of these among the ancestors it hangs at the left of the next one behind the root.
        insert(0, 0, "y");
        text(0, "yzab");
    }

    /** Three agents write at one index, none knowing of the others; what they write comes in any order. */
    private void siblings(int index, String want, int[] order) {
        insert(0, 0, "ab");
        for (int agent : order) {
            load(2, 0, Wire.patch(0, Wire.agents(agent, 0), Wire.plain("" + agent + agent),
                new Wire.Span(0, 0, 2, new int[] {1, 1}, index, 0)));
        }
        text(0, want);
        for (int k = 0; k < 3; k++) {
            due((5 + k) * AGENT + 1, "head", 0, k);
        }
        // One more at either end.
        for (int agent : new int[] {8, 4}) {
            load(1, 0, Wire.patch(0, Wire.agents(agent, 0), Wire.plain("" + agent),
                new Wire.Span(0, 0, 1, new int[] {1, 1}, index, 0)));
        }
        text(0, want.replace("55", "455").replace("77", "778"));
    }

    private void rootSiblings(int[] order) {
        for (int agent : order) {
            load(2, 0, Wire.patch(0, Wire.agents(agent), Wire.plain("" + agent + agent),
                new Wire.Span(0, 0, 2, ROOT, 0, 0)));
        }
        text(0, "556677");
        // A fourth one, whose id is below all these.
        load(1, 0, Wire.patch(0, Wire.agents(4), Wire.plain("4"), new Wire.Span(0, 0, 1, ROOT, 0, 0)));
        text(0, "4556677");
        due(4 * AGENT, "head", 0, 0);
        due(5 * AGENT + 1, "head", 0, 1);
    }

    private void deletedOnesToo() {
        insert(0, 0, "ab");
        due(1, "delete", 0, 1, 1);
        due(3, "sync", 0, 1);
        insert(0, 1, "x");
        insert(1, 1, "y");
        due(1, "sync", 0, 1);
        due(1, "sync", 1, 0);
        // x and y hang at the left of b, which is deleted, not at the right of a behind it.
        text(0, "axy");
        text(1, "axy");
        insert(2, 0, "c");
        due(0, "delete", 2, 0, 1);
        insert(2, 0, "d");
        text(2, "d");
    }

    private void deletedTwice() {
        insert(0, 0, "abc");
        due(3, "sync", 0, 1);
        due(2, "delete", 0, 1, 1);
        due(1, "delete", 1, 1, 2);
        due(1, "sync", 0, 1);
        text(1, "a");
        due(2, "sync", 1, 0);
        text(0, "a");
        due(6, "events", 0, -1);
    }

    private void characters() {
        int[][] least = {{0}, {0x7f}, {0xc2, 0x80}, {0xdf, 0xbf}, {0xe0, 0xa0, 0x80}, {0xed, 0x9f, 0xbf},
            {0xee, 0x80, 0x80}, {0xef, 0xbf, 0xbf}, {0xf0, 0x90, 0x80, 0x80}, {0xf4, 0x8f, 0xbf, 0xbf}};
        int[] codes = {0, 127, 128, 2047, 2048, 55295, 57344, 65535, 65536, 1114111};
        for (int k = 0; k < codes.length; k++) {
            bytes(least[k]);
            due(1, "insert", 0, k);
            due(codes[k], "at", 0, k);
            bytes(least[k]);
            due(k, "find", 0, 0);
        }
        int[][] none = {{0xed, 0xa0, 0x80}, {0xed, 0xbf, 0xbf}, {0xf4, 0x90, 0x80, 0x80}, {0xf7, 0xbf, 0xbf, 0xbf}};
        for (int[] row : none) {
            bytes(row);
            due(UNSUPPORTED, "insert", 0, 0);
            bytes(row);
            due(UNSUPPORTED, "find", 0, 0);
        }
        due(10, "events", 0, -1);
    }

    private void shortestForm() {
        int[][] longer = {{0xc0, 0x80}, {0xc1, 0xbf}, {0xe0, 0x80, 0x80}, {0xe0, 0x9f, 0xbf}, {0xf0, 0x80, 0x80, 0x80},
            {0xf0, 0x8f, 0xbf, 0xbf}};
        for (int[] row : longer) {
            bytes(row);
            due(UNSUPPORTED, "insert", 0, 0);
            bytes(row);
            due(UNSUPPORTED, "find", 0, 0);
        }
        due(0, "events", 0, -1);
    }

    private void cutForms() {
        int[][] bad = {{0x80}, {0xbf}, {0xc2}, {0xe1, 0x80}, {0xe1}, {0xf1, 0x80, 0x80}, {0xf1, 0x80}, {0xf1},
            {0xc2, 0x7f}, {0xc2, 0xc0}, {0xe1, 0x7f, 0x80}, {0xe1, 0x80, 0xc0}, {0xf1, 0x80, 0x80, 0x7f},
            {0xf1, 0xc0, 0x80, 0x80}, {0xf8, 0x80, 0x80, 0x80}, {0xff}, {0xc2, 0x80, 0x80}, {97, 98, 0xc3}};
        for (int[] row : bad) {
            bytes(row);
            due(UNSUPPORTED, "insert", 0, 0);
        }
        due(0, "length", 0);
    }

    /** Sixteen first bytes, each with no byte to three behind it; Java's own decoder tells what is due. */
    private void firstBytes(int from) {
        for (int first = from; first < from + 16; first++) {
            byte[] all = Wire.bytes(first, 0x90, 0xbf, 0x80);
            for (int size = 1; size <= 4; size++) {
                byte[] row = Arrays.copyOf(all, size);
                String text = new String(row, StandardCharsets.UTF_8);
                feed(row);
                if (text.indexOf('\ufffd') >= 0) {
                    due(UNSUPPORTED, "insert", 0, 0);
                } else {
                    due(text.codePointCount(0, text.length()), "insert", 0, 0);
                    due(text.codePointAt(0), "at", 0, 0);
                }
            }
        }
    }

    private void ownParents() {
        load(3, 0, crowd(7, 3));
        insert(0, 0, "xy");
        due(1, "head", 0, 0);
        due(MISSING, "head", 0, 1);
        byte[] own = Wire.patch(0, Wire.agents(0, 7, 8, 9), Wire.plain("xy"),
            new Wire.Span(0, 0, 2, new int[] {1, 0, 2, 0, 3, 0}, 0, 0));
        load(0, 0, Wire.message(2, 1, Wire.varints(3, 7, 1, 8, 1, 9, 1)));
        due(own.length, "send", 0, 1, 0);
        message(0, own);
    }

    private void ownSixteenParents() {
        insert(2, 0, "m");
        load(15, 2, crowd(4, 15));
        due(2 * AGENT, "head", 2, 0);
        due(18 * AGENT, "head", 2, 15);
        insert(2, 16, "!");
        due(2 * AGENT + 1, "head", 2, 0);
        due(MISSING, "head", 2, 1);
        due(1, "related", 2, 18, 0, 2, 1);
        due(1, "critical", 2);
        // Known of it is all but the last event, which has all sixteen written out.
        long[] counts = new long[33];
        counts[0] = 16;
        int[] ids = new int[16];
        int[] parents = new int[32];
        for (int k = 0; k < 16; k++) {
            ids[k] = k == 0 ? 2 : 3 + k;
            counts[2 * k + 1] = ids[k];
            counts[2 * k + 2] = 1;
            parents[2 * k] = k;
        }
        load(0, 2, Wire.message(2, 1, Wire.varints(counts)));
        byte[] last = Wire.patch(2, Wire.agents(ids), Wire.plain("!"), new Wire.Span(0, 1, 1, parents, 16, 0));
        due(last.length, "send", 2, 1, 0);
        message(0, last);
    }

    private void newObjects() {
        Calls other = x instanceof Real ? new Real() : new Model();
        Wire.feed(other, "ab");
        other.call("insert", 0, 0);
        other.call("mark", 0, 0);
        other.call("anchor", 0, 0, 0);
        other.call("announce", 0, 0);
        Wire.feed(other, "c");
        due(0, "end", 0);
        due(0, "length", 0);
        due(MISSING, "view", 0);
        due(MISSING, "place", 0);
        due(MISSING, "octet", 0, -1);
        due(MISSING, "undo", 0);
    }

    private void feedOrder() {
        due("", "feed", 0xc3a9e4b8, 0xadf09f98, 0x80000102, 0x037f0a0d, 0x20212223);
        due(14, "insert", 0, 0);
        int[] codes = {233, 20013, 128512, 0, 1, 2, 3, 127, 10, 13, 32, 33, 34, 35};
        for (int k = 0; k < codes.length; k++) {
            due(codes[k], "at", 0, k);
        }
    }

    private void feedFull() {
        for (int k = 0; k < 1638; k++) {
            due("", "feed", 0x61616161, 0, 0, 0, 0);
        }
        due(STATE, "feed", 0, 0, 0, 0, 0);
        due(11, "end", 32749);
        due(STATE, "feed", 0, 0, 0, 0, 0);
        due(0, "end", 32749);
        due(1, "end", 32748);
        due("", "feed", 0, 0, 0, 0, 0);
        due(STATE, "feed", LOW, HIGH, -1, 0, 1);
        due(ARGUMENT, "end", 32769);
        due(0, "end", 32768);
    }

    private void endEdges() {
        due("", "feed", 0x61626364, 0x65666768, 0x696a6b6c, 0x6d6e6f70, 0x71727374);
        due(ARGUMENT, "end", 21);
        due(ARGUMENT, "end", -1);
        due(0, "end", 20);
        due(1, "end", 19);
        due(ARGUMENT, "end", 20);
        due(18, "end", 1);
        // What is fed next comes behind what was left.
        due("", "feed", 0x7a000000, 0, 0, 0, 0);
        due(19, "end", 2);
        due(2, "insert", 0, 0);
        text(0, "az");
    }

    private void endEmpty() {
        due(0, "end", 0);
        due(ARGUMENT, "end", 1);
        due("", "feed", 0, 0, 0, 0, 0);
        due(20, "end", 0);
        due(ARGUMENT, "end", 1);
        due(0, "insert", 0, 0);
    }

    private void insertIndex() {
        feed("b");
        due(ARGUMENT, "insert", 0, 1);
        due(1, "insert", 0, 0);
        insert(0, 1, "d");
        insert(0, 0, "a");
        insert(0, 2, "c");
        feed("e");
        due(ARGUMENT, "insert", 0, 5);
        due(ARGUMENT, "insert", 0, -1);
        due(1, "insert", 0, 4);
        text(0, "abcde");
        // The length is what counts, not the nodes.
        due(1, "delete", 0, 0, 4);
        feed("f");
        due(ARGUMENT, "insert", 0, 2);
        due(1, "insert", 0, 1);
        text(0, "ef");
    }

    private void insertEmpty() {
        due(0, "insert", 0, 0);
        due(ARGUMENT, "insert", 0, 1);
        due(0, "events", 0, -1);
        due(MISSING, "head", 0, 0);
        insert(0, 0, "ab");
        due(0, "insert", 0, 2);
        due(2, "events", 0, -1);
        due(1, "head", 0, 0);
    }

    private void insertNoText() {
        insert(0, 0, "ab");
        bytes(99, 255);
        due(UNSUPPORTED, "insert", 0, 1);
        due(0, "end", 0);
        due(2, "events", 0, -1);
        text(0, "ab");
    }

    private void insertTapeStays() {
        bytes(99, 255);
        due(ARGUMENT, "insert", 4, 0);
        due(ARGUMENT, "insert", -1, 0);
        due(ARGUMENT, "insert", 0, 1);
        due(0, "end", 2);
        due(1, "end", 1);
        due(1, "insert", 0, 0);
        text(0, "c");
    }

    private void insertNoRoom() {
        load("8190", 0, 0, Wire.run(9, 8190));
        feed("xyz");
        due(STATE, "insert", 0, 0);
        due(0, "end", 0);
        due(8190, "events", 0, -1);
        due(0, "events", 0, 0);
        due(MISSING, "undo", 0);
        insert(0, 8190, "xy");
        due(8192, "length", 0);
        due(121, "at", 0, 8191);
        feed("z");
        due(STATE, "insert", 0, 0);
        due(0, "insert", 0, 0);
        due(8192, "events", 0, -1);
        // Another peer has room of its own.
        insert(1, 0, "z");
    }

    private void insertNoTextNoRoom() {
        load("8192", 0, 0, Wire.run(9, 8192));
        bytes(99, 255);
        due(UNSUPPORTED, "insert", 0, 0);
        bytes(99, 255);
        due(ARGUMENT, "insert", 0, 8193);
        due(UNSUPPORTED, "insert", 0, 8192);
        due(0, "end", 0);
    }

    private void insertNoAgent() {
        load(16, 0, crowd(4, 16));
        feed("z");
        due(STATE, "insert", 0, 0);
        due(0, "end", 0);
        due(0, "insert", 0, 0);
        due(16, "events", 0, -1);
        due(MISSING, "undo", 0);
        // The same agents, one of which is the peer's own.
        load(16, 3, crowd(3, 16));
        insert(3, 0, "z");
        due(2, "events", 3, 3);
        due(3 * AGENT + 1, "blame", 3, 0);
    }

    private void insertLastAgent() {
        load(15, 0, crowd(4, 15));
        insert(0, 15, "z");
        due(16, "events", 0, -1);
        due(0, "head", 0, 0);
        load(STATE, 7, 0, Wire.patch(0, Wire.agents(99), Wire.plain("q"), new Wire.Span(0, 0, 1, ROOT, 0, 0)));
        insert(0, 0, "y");
        due(2, "events", 0, 0);
    }

    private void deleteEdges() {
        due(ARGUMENT, "delete", 0, 0, 1);
        due(ARGUMENT, "delete", 0, 0, 0);
        insert(0, 0, "abcd");
        due(ARGUMENT, "delete", 0, 0, 0);
        due(ARGUMENT, "delete", 0, 0, -1);
        due(ARGUMENT, "delete", 0, 0, 5);
        due(ARGUMENT, "delete", 0, 1, 4);
        due(ARGUMENT, "delete", 0, 4, 1);
        due(ARGUMENT, "delete", 0, -1, 1);
        due(ARGUMENT, "delete", 0, -1, 5);
        // Their sum wraps around.
        due(ARGUMENT, "delete", 0, HIGH, 1);
        due(ARGUMENT, "delete", 0, HIGH, HIGH);
        due(ARGUMENT, "delete", 0, 1, HIGH);
        due(ARGUMENT, "delete", 0, 0, LOW);
        due(ARGUMENT, "delete", 0, LOW, HIGH);
        due(4, "events", 0, -1);
        due(3, "delete", 0, 3, 1);
        due(2, "delete", 0, 0, 1);
        text(0, "bc");
    }

    private void deleteAll() {
        insert(0, 0, "abcdef");
        due(3, "delete", 0, 1, 3);
        text(0, "aef");
        byte[] patch = Wire.patch(0, Wire.agents(0), Wire.plain("abcdef"), new Wire.Span(0, 0, 6, ROOT, 0, 0),
            new Wire.Span(0, 6, 3, null, 1 - 6, 1));
        due(patch.length, "send", 0, -1, 0);
        message(0, patch);
        due(0, "delete", 0, 0, 3);
        due(0, "length", 0);
        due(ARGUMENT, "delete", 0, 0, 1);
    }

    private void deleteNoRoom() {
        load("8189", 0, 0, Wire.run(9, 8189));
        due(STATE, "delete", 0, 0, 4);
        due(8189, "length", 0);
        due(0, "events", 0, 0);
        due(MISSING, "undo", 0);
        due(ARGUMENT, "delete", 0, 8186, 4);
        due(8186, "delete", 0, 8186, 3);
        due(8192, "events", 0, -1);
        due(STATE, "delete", 0, 0, 1);
        due(ARGUMENT, "delete", 0, 8186, 1);
    }

    private void deleteNoAgent() {
        load(16, 0, crowd(4, 16));
        due(STATE, "delete", 0, 0, 1);
        due(16, "length", 0);
        due(16, "events", 0, -1);
        load(16, 3, crowd(3, 16));
        due(14, "delete", 3, 0, 2);
    }

    private void undoNothing() {
        due(MISSING, "undo", 0);
        insert(0, 0, "ab");
        due(MISSING, "undo", 1);
        due(2, "undo", 0);
        due(MISSING, "undo", 0);
        due(MISSING, "undo", 0);
        due(4, "events", 0, -1);
    }

    private void undoCallsThatMadeNone() {
        insert(0, 0, "ab");
        due(0, "insert", 0, 1);
        bytes(255);
        due(UNSUPPORTED, "insert", 0, 0);
        due(ARGUMENT, "insert", 0, 3);
        due(ARGUMENT, "delete", 0, 0, 3);
        due(2, "undo", 0);
        text(0, "");
        due(MISSING, "undo", 0);
    }

    private void undoNone() {
        insert(0, 0, "ab");
        insert(0, 1, "xy");
        due(2, "delete", 0, 1, 2);
        due(2, "undo", 0);
        text(0, "axyb");
        // The x and y of the second call are deleted still; those inserted again are not of it.
        due(0, "undo", 0);
        text(0, "axyb");
        due(2, "undo", 0);
        text(0, "xy");
        due(MISSING, "undo", 0);
    }

    private void undoIsNoCall() {
        insert(0, 0, "ab");
        due(1, "delete", 0, 0, 1);
        due(1, "undo", 0);
        text(0, "ab");
        // The next one is the insert, of whose nodes only b is in the text.
        due(1, "undo", 0);
        text(0, "a");
        due(MISSING, "undo", 0);
    }

    private void undoOwnOnly() {
        insert(0, 0, "ab");
        insert(1, 0, "xy");
        due(2, "sync", 1, 0);
        // The latest call on the text was that of peer 1, but peer 0 undoes its own.
        due(2, "undo", 0);
        text(0, "xy");
        due(MISSING, "undo", 0);
        // Events of its agent that came by a message are no call of a peer.
        load(1, 2, Wire.patch(0, Wire.agents(2), Wire.plain("q"), new Wire.Span(0, 0, 1, ROOT, 0, 0)));
        due(MISSING, "undo", 2);
    }

    private void undoInsertOrder() {
        insert(0, 0, "abcd");
        due(4, "sync", 0, 1);
        insert(1, 2, "X");
        due(4, "delete", 1, 3, 1);
        due(2, "sync", 1, 0);
        text(0, "abXd");
        due(3, "undo", 0);
        text(0, "X");
        load(0, 0, Wire.message(2, 3, Wire.varints(2, 0, 4, 1, 2)));
        // The indices are 3, then 1, then 0.
        byte[] patch = Wire.patch(0, Wire.agents(0, 1), Wire.plain(""),
            new Wire.Span(0, 4, 1, new int[] {1, 1}, 3, 1), new Wire.Span(0, 5, 2, null, 1 - 3, 2));
        due(patch.length, "send", 0, 3, 0);
        message(0, patch);
    }

    private void undoDeleteOrder() {
        insert(0, 0, "abcd");
        due(4, "sync", 0, 1);
        due(1, "delete", 0, 1, 3);
        insert(1, 3, "X");
        insert(1, 0, "Y");
        due(2, "sync", 1, 0);
        text(0, "YaX");
        due(3, "undo", 0);
        text(0, "YabcXd");
        load(0, 0, Wire.message(2, 3, Wire.varints(2, 0, 7, 1, 2)));
        // The indices are 2, 3, and behind X 5.
        byte[] patch = Wire.patch(0, Wire.agents(0, 1), Wire.plain("bcd"),
            new Wire.Span(0, 7, 2, new int[] {0, 6, 1, 1}, 2, 0), new Wire.Span(0, 9, 1, null, 1, 0));
        due(patch.length, "send", 0, 3, 0);
        message(0, patch);
    }

    private void undoDeletedTwice() {
        insert(0, 0, "abc");
        due(3, "sync", 0, 1);
        due(2, "delete", 0, 1, 1);
        due(2, "delete", 1, 1, 1);
        due(1, "sync", 1, 0);
        due(1, "sync", 0, 1);
        due(1, "undo", 0);
        text(0, "abc");
        due(1, "undo", 1);
        due(1, "sync", 0, 1);
        // Each of them inserts it again.
        text(1, "abbc");
    }

    private void undoNoRoom() {
        load("8188", 0, 0, Wire.run(9, 8188));
        insert(0, 0, "x");
        due(8187, "delete", 0, 0, 2);
        due(8191, "events", 0, -1);
        due(STATE, "undo", 0);
        due(8191, "events", 0, -1);
        due(8187, "length", 0);
        // It is not undone, so the call before it is not the next one.
        due(STATE, "undo", 0);
        insert(0, 0, "y");
        due(STATE, "undo", 0);
        due(8188, "length", 0);
    }

    private void undoNoneInFull() {
        load("8190", 0, 0, Wire.run(9, 8190));
        insert(0, 0, "x");
        due(8191, "sync", 0, 1);
        due(8190, "delete", 1, 0, 1);
        due(1, "sync", 1, 0);
        due(8192, "events", 0, -1);
        due(0, "undo", 0);
        due(MISSING, "undo", 0);
        due(STATE, "undo", 1);
    }

    private void lengthFull() {
        load("8192", 0, 2, Wire.run(9, 8192));
        due(8192, "length", 2);
        due(97, "at", 2, 8191);
        due(ARGUMENT, "at", 2, 8192);
        due(9 * AGENT + 8191, "blame", 2, 8191);
    }

    private void atEdges() {
        due(ARGUMENT, "at", 0, 0);
        due(ARGUMENT, "at", 0, -1);
        insert(0, 0, "ab");
        due(97, "at", 0, 0);
        due(98, "at", 0, 1);
        due(ARGUMENT, "at", 0, 2);
        due(1, "delete", 0, 0, 1);
        due(98, "at", 0, 0);
        due(ARGUMENT, "at", 0, 1);
        due(ARGUMENT, "at", 1, 0);
    }

    private void lineEnds() {
        due(1, "line", 0, -1);
        due(0, "line", 0, 0);
        insert(0, 0, "\n");
        due(2, "line", 0, -1);
        due(0, "line", 0, 0);
        due(1, "line", 0, 1);
        // Only 10 ends a line.
        insert(1, 0, "a\rb\u000bc\u2028d");
        due(1, "line", 1, -1);
        insert(1, 3, "\n\n");
        due(3, "line", 1, -1);
        due(4, "line", 1, 1);
        due(5, "line", 1, 2);
        due(8, "delete", 1, 3, 1);
        due(2, "line", 1, -1);
    }

    private void noSuchLine() {
        due(MISSING, "line", 0, 1);
        due(MISSING, "line", 0, -2);
        insert(0, 0, "a\nb");
        due(2, "line", 0, 1);
        due(MISSING, "line", 0, 2);
        due(MISSING, "line", 0, -2);
        due(MISSING, "line", 0, LOW);
        due(MISSING, "line", 0, HIGH);
        due(2, "line", 0, -1);
    }

    private void findFrom() {
        insert(0, 0, "abab");
        feed("ab");
        due(0, "find", 0, 0);
        feed("ab");
        due(2, "find", 0, 1);
        feed("ab");
        due(2, "find", 0, 2);
        feed("ab");
        due(-1, "find", 0, 3);
        feed("ab");
        due(-1, "find", 0, 4);
        feed("ab");
        due(ARGUMENT, "find", 0, 5);
        due(ARGUMENT, "find", 0, -1);
        // The tape is there still.
        due(2, "find", 0, 2);
        due(0, "end", 0);
    }

    private void findDeleted() {
        insert(0, 0, "a\nxb\nab");
        due(5, "delete", 0, 1, 2);
        feed("ab");
        due(0, "find", 0, 0);
        feed("ab");
        due(3, "find", 0, 1);
        feed("\n");
        due(2, "find", 0, 0);
        feed("x");
        due(-1, "find", 0, 0);
        feed("a\nx");
        due(-1, "find", 0, 0);
        due(2, "line", 0, -1);
        due(3, "line", 0, 1);
    }

    private void findNone() {
        feed("a");
        due(-1, "find", 0, 0);
        insert(0, 0, "aab");
        feed("aab");
        due(0, "find", 0, 0);
        feed("aabb");
        due(-1, "find", 0, 0);
        feed("ab");
        due(1, "find", 0, 0);
        feed("b");
        due(2, "find", 0, 2);
        feed("ba");
        due(-1, "find", 0, 0);
        due(0, "end", 0);
    }

    private void findEmpty() {
        due(0, "find", 0, 0);
        insert(0, 0, "ab");
        for (int from = 0; from < 3; from++) {
            due(from, "find", 0, from);
        }
        due(ARGUMENT, "find", 0, 3);
    }

    private void findNoText() {
        bytes(97, 255);
        due(UNSUPPORTED, "find", 0, 0);
        due(0, "end", 0);
        bytes(97, 255);
        due(ARGUMENT, "find", 0, 1);
        due(ARGUMENT, "find", 4, 0);
        due(0, "end", 2);
        due(UNSUPPORTED, "find", 0, 0);
        due(0, "end", 0);
    }

    private void blameEdges() {
        load(3, 0, Wire.run(255, 3));
        due(255 * AGENT, "blame", 0, 0);
        due(255 * AGENT + 2, "blame", 0, 2);
        due(ARGUMENT, "blame", 0, 3);
        insert(0, 1, "x");
        due(0, "blame", 0, 1);
        due(255 * AGENT + 1, "blame", 0, 2);
        due(3, "delete", 0, 0, 1);
        due(0, "blame", 0, 0);
        due(ARGUMENT, "blame", 0, 3);
        due(ARGUMENT, "blame", 0, -1);
        due(ARGUMENT, "blame", 1, 0);
    }

    private void eventsEdges() {
        due(0, "events", 0, -1);
        due(0, "events", 0, 0);
        due(0, "events", 0, 255);
        load(2, 0, Wire.run(255, 2));
        insert(0, 0, "a");
        due(2, "delete", 0, 0, 1);
        due(4, "events", 0, -1);
        due(2, "events", 0, 0);
        due(2, "events", 0, 255);
        due(0, "events", 0, 254);
        due(ARGUMENT, "events", 0, 256);
        due(ARGUMENT, "events", 0, -2);
    }

    private void headEdges() {
        due(MISSING, "head", 0, 0);
        load(3, 0, crowd(253, 3));
        due(253 * AGENT, "head", 0, 0);
        due(255 * AGENT, "head", 0, 2);
        due(MISSING, "head", 0, 3);
        due(MISSING, "head", 0, -1);
        due(MISSING, "head", 0, LOW);
        due(MISSING, "head", 0, HIGH);
        insert(0, 0, "ab");
        due(1, "head", 0, 0);
        due(MISSING, "head", 0, 1);
    }

    private void headsMost() {
        load(16, 0, crowd(4, 16));
        due(4 * AGENT, "head", 0, 0);
        due(19 * AGENT, "head", 0, 15);
        due(MISSING, "head", 0, 16);
        load(1, 0, Wire.patch(0, Wire.agents(10), Wire.plain("z"), new Wire.Span(0, 1, 1, new int[] {0, 0}, 0, 0)));
        due(10 * AGENT + 1, "head", 0, 6);
        due(11 * AGENT, "head", 0, 7);
        due(MISSING, "head", 0, 16);
    }

    private void relatedMissing() {
        due(MISSING, "related", 0, 0, 0, 0, 0);
        insert(0, 0, "ab");
        due(0, "related", 0, 0, 1, 0, 1);
        due(MISSING, "related", 0, 0, 2, 0, 0);
        due(MISSING, "related", 0, 0, 0, 0, 2);
        due(MISSING, "related", 0, 0, -1, 0, 0);
        due(MISSING, "related", 0, 0, 0, 0, -1);
        due(MISSING, "related", 0, 0, LOW, 0, HIGH);
        due(MISSING, "related", 0, 0, 0, 255, 0);
        due(MISSING, "related", 0, 1, 0, 0, 0);
        due(MISSING, "related", 1, 0, 0, 0, 0);
    }

    private void relatedRange() {
        due(ARGUMENT, "related", 0, 256, 0, 0, 0);
        due(ARGUMENT, "related", 0, 0, 0, 256, 0);
        due(ARGUMENT, "related", 0, -1, 0, 0, 0);
        due(ARGUMENT, "related", 0, 0, 0, -1, 0);
        // Ahead of what is not there.
        due(ARGUMENT, "related", 0, 0, -1, 256, -1);
        due(ARGUMENT, "related", 4, 0, -1, 0, -1);
    }

    private void relatedAnswers() {
        load(2, 0, crowd(254, 2));
        insert(0, 0, "ab");
        due(0, "related", 0, 255, 0, 255, 0);
        due(3, "related", 0, 254, 0, 255, 0);
        due(3, "related", 0, 255, 0, 254, 0);
        due(1, "related", 0, 254, 0, 0, 0);
        due(2, "related", 0, 0, 1, 255, 0);
        due(1, "related", 0, 0, 0, 0, 1);
        due(2, "related", 0, 0, 1, 0, 0);
    }

    private void criticalEdges() {
        due(0, "critical", 0);
        insert(0, 0, "a");
        due(1, "critical", 0);
        insert(0, 0, "bcd");
        due(2, "delete", 0, 0, 2);
        due(6, "critical", 0);
        load(2, 1, crowd(8, 2));
        due(0, "critical", 1);
        insert(1, 0, "a");
        due(1, "critical", 1);
    }

    private void criticalBranches() {
        insert(0, 0, "ab");
        due(2, "sync", 0, 1);
        insert(0, 2, "c");
        insert(1, 2, "d");
        due(1, "sync", 1, 0);
        due(2, "critical", 0);
        insert(0, 4, "e");
        due(3, "critical", 0);
        // An event beside all of these, as it has no ancestors.
        load(1, 0, Wire.run(9, 1));
        due(0, "critical", 0);
    }

    private void markAll() {
        insert(3, 0, "ab");
        for (int b = 0; b < 8; b++) {
            due(MISSING, "view", b);
            due(b % 4 == 3 ? 2 : 0, "mark", b, b % 4);
            due(b % 4 == 3 ? 2 : 0, "view", b);
        }
        due(ARGUMENT, "mark", 8, 0);
        due(ARGUMENT, "mark", -1, 0);
        due(ARGUMENT, "mark", 7, 4);
        due(2, "view", 7);
    }

    private void markNow() {
        insert(0, 0, "ab");
        due(2, "mark", 0, 0);
        due(0, "delete", 0, 0, 2);
        due(4, "mark", 1, 0);
        due(2, "undo", 0);
        due(6, "mark", 2, 0);
        due(2, "view", 0);
        due(0, "view", 1);
        due(2, "view", 2);
        due(97, "viewed", 0);
        due(98, "viewed", 1);
    }

    private void viewStays() {
        insert(0, 0, "ab");
        due(2, "mark", 3, 0);
        due(2, "view", 3);
        due(1, "delete", 0, 0, 1);
        due(97, "viewed", 0);
        due(3, "mark", 3, 0);
        due(97, "viewed", 0);
        due(98, "viewed", 1);
        due(1, "view", 3);
        due(98, "viewed", 0);
        due(ARGUMENT, "viewed", 1);
    }

    private void markOther() {
        insert(0, 0, "ab");
        insert(1, 0, "cde");
        due(2, "mark", 3, 0);
        due(2, "mark", 4, 0);
        due(3, "mark", 3, 1);
        due(3, "view", 3);
        due('c', "viewed", 0);
        due(UNSUPPORTED, "differ", 3, 4);
        due(2, "view", 4);
        due('a', "viewed", 0);
    }

    /** Two peers delete the same character; what was before, between and behind the two stays apart. */
    private void viewDeletedTwice() {
        insert(0, 0, "abc");
        due(3, "sync", 0, 1);
        due(3, "mark", 0, 0);
        due(2, "delete", 0, 1, 1);
        due(2, "delete", 1, 1, 1);
        due(4, "mark", 1, 0);
        due(1, "sync", 1, 0);
        due(5, "mark", 2, 0);
        due(3, "view", 0);
        due('b', "viewed", 1);
        due(2, "view", 1);
        due('c', "viewed", 1);
        due(2, "view", 2);
        due('c', "viewed", 1);
        due(0, "differ", 1, 2);
        due(1, "differ", 0, 1);
        hunk(0, 1, 1, 1, 0);
        due(1, "differ", 2, 0);
        hunk(0, 1, 0, 1, 1);
    }

    private void viewNone() {
        insert(0, 0, "ab");
        due(2, "mark", 3, 0);
        due(2, "view", 3);
        due(MISSING, "view", 4);
        due(ARGUMENT, "view", 8);
        due(ARGUMENT, "view", -1);
        due(98, "viewed", 1);
    }

    private void viewedEmpty() {
        due(ARGUMENT, "viewed", 0);
        due(ARGUMENT, "viewed", -1);
        insert(0, 0, "ab");
        due(ARGUMENT, "viewed", 0);
        due(2, "mark", 0, 0);
        due(ARGUMENT, "viewed", 0);
    }

    private void viewedEdges() {
        insert(0, 0, "a😀");
        due(2, "mark", 0, 0);
        due(2, "view", 0);
        due(97, "viewed", 0);
        due(128512, "viewed", 1);
        due(ARGUMENT, "viewed", 2);
        due(ARGUMENT, "viewed", -1);
        due(0, "mark", 1, 1);
        due(0, "view", 1);
        due(ARGUMENT, "viewed", 0);
    }

    private void differNeighbours() {
        insert(0, 0, "abcd");
        due(4, "mark", 0, 0);
        due(3, "delete", 0, 1, 1);
        insert(0, 1, "X");
        due(3, "delete", 0, 2, 1);
        insert(0, 2, "YZ");
        due(9, "mark", 1, 0);
        text(0, "aXYZd");
        // Between a and d all is one hunk, whatever the order of deleted and inserted ones.
        due(1, "differ", 0, 1);
        hunk(0, 1, 2, 1, 3);
        due(1, "differ", 1, 0);
        hunk(0, 1, 3, 1, 2);
        insert(0, 1, "-");
        insert(0, 6, "+");
        due(11, "mark", 2, 0);
        due(2, "differ", 1, 2);
        hunk(0, 1, 0, 1, 1);
        hunk(1, 5, 0, 6, 1);
        due(MISSING, "hunk", 2, 0);
    }

    private void differEnds() {
        insert(0, 0, "abc");
        due(3, "mark", 0, 0);
        insert(0, 0, "X");
        insert(0, 4, "YZ");
        due(6, "mark", 1, 0);
        due(2, "differ", 0, 1);
        hunk(0, 0, 0, 0, 1);
        hunk(1, 3, 0, 4, 2);
        due(5, "delete", 0, 1, 1);
        due(7, "mark", 2, 0);
        due(1, "differ", 1, 2);
        hunk(0, 1, 1, 1, 0);
        due(2, "differ", 0, 2);
        hunk(0, 0, 1, 0, 1);
        hunk(1, 3, 0, 3, 2);
    }

    private void differAll() {
        due(0, "mark", 0, 0);
        insert(0, 0, "ab");
        due(2, "mark", 1, 0);
        due(0, "delete", 0, 0, 2);
        insert(0, 0, "c");
        due(5, "mark", 2, 0);
        due(1, "differ", 0, 1);
        hunk(0, 0, 0, 0, 2);
        due(1, "differ", 1, 0);
        hunk(0, 0, 2, 0, 0);
        due(1, "differ", 1, 2);
        hunk(0, 0, 2, 0, 1);
        due(MISSING, "hunk", 1, 0);
    }

    private void differNothing() {
        due(0, "mark", 0, 0);
        due(0, "mark", 1, 0);
        due(0, "differ", 0, 1);
        due(0, "differ", 0, 0);
        due(MISSING, "hunk", 0, 0);
        insert(0, 0, "ab");
        due(2, "mark", 0, 0);
        due(2, "mark", 1, 0);
        due(0, "differ", 0, 1);
        due(MISSING, "hunk", 0, 0);
    }

    private void differNeither() {
        insert(0, 0, "ab");
        due(2, "mark", 0, 0);
        insert(0, 1, "x");
        due(2, "delete", 0, 1, 1);
        due(4, "mark", 1, 0);
        // The x is in neither of the two texts.
        due(0, "differ", 0, 1);
        insert(0, 2, "y");
        due(5, "mark", 2, 0);
        due(1, "differ", 1, 2);
        hunk(0, 2, 0, 2, 1);
    }

    /** The n in the middle is in neither text, but parts nothing: there is one hunk, not two. */
    private void differAcross() {
        insert(0, 0, "axb");
        due(3, "mark", 0, 0);
        insert(0, 2, "ny");
        due(4, "delete", 0, 2, 1);
        due(3, "delete", 0, 1, 1);
        due(7, "mark", 1, 0);
        due(3, "view", 1);
        due('y', "viewed", 1);
        due(1, "differ", 0, 1);
        hunk(0, 1, 1, 1, 1);
        due(1, "differ", 1, 0);
        hunk(0, 1, 1, 1, 1);
    }

    private void hunksStay() {
        insert(0, 0, "ab");
        due(2, "mark", 0, 0);
        insert(0, 1, "x");
        due(3, "mark", 1, 0);
        due(1, "differ", 0, 1);
        due(0, "mark", 2, 1);
        due(UNSUPPORTED, "differ", 0, 2);
        due(MISSING, "differ", 0, 3);
        due(ARGUMENT, "differ", 0, 8);
        due(0, "mark", 0, 2);
        due(0, "delete", 0, 0, 3);
        hunk(0, 1, 0, 1, 1);
        // Nor does it matter that both bookmarks are of one peer again, but others.
        due(6, "mark", 0, 0);
        hunk(0, 1, 0, 1, 1);
        due(0, "differ", 1, 1);
        due(MISSING, "hunk", 0, 0);
    }

    private void differNone() {
        due(MISSING, "differ", 0, 1);
        due(MISSING, "differ", 0, 0);
        due(0, "mark", 0, 0);
        due(MISSING, "differ", 0, 1);
        due(MISSING, "differ", 1, 0);
        due(0, "mark", 7, 3);
        due(UNSUPPORTED, "differ", 0, 7);
        due(UNSUPPORTED, "differ", 7, 0);
        due(0, "differ", 7, 7);
        due(ARGUMENT, "differ", 8, 1);
        due(ARGUMENT, "differ", 1, -1);
    }

    private void hunkEdges() {
        due(MISSING, "hunk", 0, 0);
        due(MISSING, "hunk", -1, 3);
        due(ARGUMENT, "hunk", 0, 4);
        due(ARGUMENT, "hunk", -1, -1);
        due(0, "mark", 0, 0);
        insert(0, 0, "ab");
        due(2, "mark", 1, 0);
        due(1, "differ", 0, 1);
        due(2, "hunk", 0, 3);
        due(ARGUMENT, "hunk", 0, 4);
        due(ARGUMENT, "hunk", 0, -1);
        due(MISSING, "hunk", 1, 0);
        due(MISSING, "hunk", -1, 0);
        due(MISSING, "hunk", LOW, 0);
        due(MISSING, "hunk", HIGH, 3);
        due(ARGUMENT, "hunk", HIGH, 4);
    }

    private void anchorEnd() {
        due("", "anchor", 0, 0, 0);
        due(ARGUMENT, "anchor", 1, 0, 1);
        insert(0, 0, "ab");
        due(2, "place", 0);
        due("", "anchor", 1, 0, 1);
        due("", "anchor", 2, 0, 2);
        due(ARGUMENT, "anchor", 2, 0, 3);
        due(ARGUMENT, "anchor", 2, 0, -1);
        insert(0, 2, "cd");
        due(1, "place", 1);
        due(4, "place", 2);
        due(0, "delete", 0, 0, 4);
        due(0, "place", 1);
        due(0, "place", 2);
        insert(0, 0, "xyz");
        due(3, "place", 0);
    }

    private void anchorAgain() {
        insert(0, 0, "abc");
        insert(1, 0, "de");
        due("", "anchor", 7, 0, 2);
        due(2, "place", 7);
        due("", "anchor", 7, 1, 0);
        due(0, "place", 7);
        due("", "anchor", 7, 0, 3);
        due(3, "place", 7);
        due("", "anchor", 7, 0, 0);
        insert(0, 3, "z");
        // No more at the end.
        due(0, "place", 7);
        due(ARGUMENT, "anchor", 8, 0, 0);
        due(ARGUMENT, "anchor", 7, 4, 0);
        due(0, "place", 7);
    }

    private void placeDeleted() {
        insert(0, 0, "abc");
        due("", "anchor", 0, 0, 1);
        due(2, "delete", 0, 1, 1);
        due(1, "place", 0);
        insert(0, 1, "x");
        // What is written at its place comes in front of the deleted node.
        due(2, "place", 0);
        due(1, "delete", 0, 0, 2);
        due(0, "place", 0);
        due(0, "delete", 0, 0, 1);
        due(0, "place", 0);
    }

    private void placeNone() {
        for (int a = 0; a < 8; a++) {
            due(MISSING, "place", a);
        }
        due(ARGUMENT, "anchor", 0, 0, 1);
        due(MISSING, "place", 0);
        due("", "anchor", 0, 0, 0);
        due(0, "place", 0);
        due(MISSING, "place", 1);
        due(ARGUMENT, "place", 8);
        due(ARGUMENT, "place", -1);
    }

    private void placePeer() {
        insert(0, 0, "abc");
        due(3, "sync", 0, 1);
        due("", "anchor", 0, 0, 1);
        due("", "anchor", 1, 1, 1);
        insert(1, 0, "xx");
        due(1, "place", 0);
        due(3, "place", 1);
        due(2, "sync", 1, 0);
        due(3, "place", 0);
    }
}
