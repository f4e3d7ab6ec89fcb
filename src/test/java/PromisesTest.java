import java.util.Arrays;
import java.util.function.Consumer;

/**
 * Each promise of the document by hand: ordinary calls, the edges that it names, and wrong inputs. What
 * is due here must be what the model answers, too, so that neither is trusted alone.
 */
public final class PromisesTest extends Bench {
    private PromisesTest(Calls x, String name) {
        super(x, name);
    }

    public static void main(String[] args) {
        run("1 new", PromisesTest::newObject);
        run("2 feed, 3 end", PromisesTest::feedAndEnd);
        run("4 insert", PromisesTest::insert);
        run("4 insert no text", PromisesTest::insertNoText);
        run("5 delete", PromisesTest::delete);
        run("6 undo insert", PromisesTest::undoInsert);
        run("6 undo delete", PromisesTest::undoDelete);
        run("6 undo order", PromisesTest::undoOrder);
        run("7 length, 8 at", PromisesTest::lengthAndAt);
        run("9 line", PromisesTest::line);
        run("10 find", PromisesTest::find);
        run("11 blame, 12 events", PromisesTest::blameAndEvents);
        run("13 head, 14 related, 15 critical", PromisesTest::graph);
        run("16 mark, 17 view, 18 viewed", PromisesTest::bookmarks);
        run("19 differ, 20 hunk", PromisesTest::hunks);
        run("21 anchor, 22 place", PromisesTest::anchors);
        run("23 announce", PromisesTest::announce);
        run("24 send", PromisesTest::send);
        run("24 send spans", PromisesTest::sendSpans);
        run("24 send packs", PromisesTest::sendPacks);
        run("25 take", PromisesTest::take);
        run("25 take late, twice", PromisesTest::takeLate);
        run("26 load", PromisesTest::load);
        run("fault 1", PromisesTest::frames);
        run("fault 2", PromisesTest::bodies);
        run("fault 3", PromisesTest::texts);
        run("fault 4", PromisesTest::spans);
        run("faults 5 and 6", PromisesTest::events);
        run("27 sync", PromisesTest::sync);
        run("28 alter, 29 octet", PromisesTest::alterAndOctet);
        run("30 fault", PromisesTest::fault);
        run("31 crossed", PromisesTest::crossed);
        run("the tree", PromisesTest::tree);
        run("tree: left of the next one", PromisesTest::treeLeft);
        finish("the promises");
    }

    private static void run(String name, Consumer<PromisesTest> test) {
        PromisesTest one = new PromisesTest(new Real(), name);
        test.accept(one);
        one.withinCalls();
        test.accept(new PromisesTest(new Model(), name + " (model)"));
    }

    private void newObject() {
        for (int p = 0; p < 4; p++) {
            due(0, "length", p);
            due(0, "events", p, -1);
            due(0, "critical", p);
            due(1, "line", p, -1);
            due(0, "line", p, 0);
            due(0, "find", p, 0);
            due(MISSING, "head", p, 0);
            due(MISSING, "undo", p);
        }
        for (int k = 0; k < 8; k++) {
            due(MISSING, "octet", k, -1);
            due(MISSING, "take", 0, k);
            due(MISSING, "view", k);
            due(MISSING, "place", k);
        }
        due(ARGUMENT, "viewed", 0);
        due(MISSING, "hunk", 0, 0);
        due(0, "fault");
        due(0, "crossed");
        due(0, "end", 0);
    }

    private void feedAndEnd() {
        due("", "feed", 0x61626364, 0x65666768, 0x696a6b6c, 0x6d6e6f70, 0x71727374);
        due("", "feed", 0x41424344, 0x45464748, 0x494a4b4c, 0x4d4e4f50, 0x51525354);
        due(ARGUMENT, "end", 41);
        due(ARGUMENT, "end", -1);
        due(ARGUMENT, "end", LOW);
        due(ARGUMENT, "end", HIGH);
        due(0, "end", 40);
        due(18, "end", 22);
        due(22, "insert", 0, 0);
        text(0, "abcdefghijklmnopqrstAB");
        due(ARGUMENT, "end", 1);
        due(0, "end", 0);
        due("", "feed", -1, 0, 0, 0, 0);
        due(20, "end", 0);
        due(0, "insert", 0, 0);
        for (int k = 0; k < 400; k++) {
            due("", "feed", 0, 0, 0, 0, 0);
        }
        due(ARGUMENT, "end", 8001);
        due(1, "end", 7999);
    }

    private void insert() {
        due(0, "insert", 0, 0);
        due(0, "events", 0, -1);
        insert(0, 0, "world");
        insert(0, 0, "hello ");
        insert(0, 11, "!");
        insert(0, 5, ",");
        text(0, "hello, world!");
        due(13, "events", 0, 0);
        Wire.feed(x, "z");
        due(ARGUMENT, "insert", 0, 14);
        due(ARGUMENT, "insert", 0, -1);
        due(ARGUMENT, "insert", 4, 0);
        due(ARGUMENT, "insert", -1, 0);
        due(ARGUMENT, "insert", 1, 1);
        due(0, "end", 1);
        due(1, "insert", 1, 0);
        text(1, "z");
        text(0, "hello, world!");
    }

    private void insertNoText() {
        int[][] bad = {
            {128}, {191}, {0xc0, 0x80}, {0xc1, 0xbf}, {0xc2}, {0xc2, 65}, {0xe0, 0x80, 0x80}, {0xe0, 0x9f, 0xbf},
            {0xe1, 0x80}, {0xe1, 0x80, 65}, {0xed, 0xa0, 0x80}, {0xed, 0xbf, 0xbf}, {0xf0, 0x80, 0x80, 0x80},
            {0xf0, 0x8f, 0xbf, 0xbf}, {0xf4, 0x90, 0x80, 0x80}, {0xf5, 0x80, 0x80, 0x80}, {0xf7, 0xbf, 0xbf, 0xbf},
            {0xf8, 0x88, 0x80, 0x80}, {0xff}, {65, 66, 0xe4, 0xb8}
        };
        for (int[] row : bad) {
            Wire.feed(x, Wire.bytes(row));
            due(UNSUPPORTED, "insert", 0, 0);
            due(0, "insert", 0, 0);
            Wire.feed(x, Wire.bytes(row));
            due(UNSUPPORTED, "find", 0, 0);
            due(0, "find", 0, 0);
        }
        due(0, "events", 0, -1);
        // The first and last characters of each width.
        Wire.feed(x, Wire.bytes(0, 0x7f, 0xc2, 0x80, 0xdf, 0xbf, 0xe0, 0xa0, 0x80, 0xed, 0x9f, 0xbf, 0xee, 0x80, 0x80,
            0xef, 0xbf, 0xbf, 0xf0, 0x90, 0x80, 0x80, 0xf4, 0x8f, 0xbf, 0xbf));
        due(10, "insert", 0, 0);
        int[] codes = {0, 127, 128, 2047, 2048, 55295, 57344, 65535, 65536, 1114111};
        for (int k = 0; k < codes.length; k++) {
            due(codes[k], "at", 0, k);
        }
    }

    private void delete() {
        insert(0, 0, "abcdef");
        due(4, "delete", 0, 1, 2);
        text(0, "adef");
        due(8, "events", 0, -1);
        due(ARGUMENT, "delete", 0, 0, 0);
        due(ARGUMENT, "delete", 0, 0, -1);
        due(ARGUMENT, "delete", 0, -1, 1);
        due(ARGUMENT, "delete", 0, 4, 1);
        due(ARGUMENT, "delete", 0, 1, 4);
        due(ARGUMENT, "delete", 0, HIGH, HIGH);
        due(ARGUMENT, "delete", 0, 1, HIGH);
        due(ARGUMENT, "delete", 0, LOW, LOW);
        due(ARGUMENT, "delete", 4, 0, 1);
        due(ARGUMENT, "delete", 1, 0, 1);
        text(0, "adef");
        due(0, "delete", 0, 0, 4);
        text(0, "");
        due(12, "events", 0, 0);
    }

    private void undoInsert() {
        insert(0, 0, "abcdef");
        due(6, "sync", 0, 1);
        due(4, "delete", 1, 1, 2);
        insert(1, 2, "XY");
        due(4, "sync", 1, 0);
        text(0, "adXYef");
        due(4, "undo", 0);
        text(0, "XY");
        due(MISSING, "undo", 0);
        due(ARGUMENT, "undo", 4);
        due(ARGUMENT, "undo", -1);
        due(10, "events", 0, 0);
        // An undo that makes no event counts, too; and the call before it is next.
        insert(2, 0, "p");
        insert(2, 1, "q");
        due(2, "sync", 2, 3);
        due(2, "events", 3, -1);
        due(1, "delete", 3, 1, 1);
        due(1, "sync", 3, 2);
        due(0, "undo", 2);
        text(2, "p");
        due(1, "undo", 2);
        text(2, "");
        due(MISSING, "undo", 2);
    }

    private void undoDelete() {
        insert(0, 0, "abcdef");
        due(6, "sync", 0, 1);
        due(2, "delete", 0, 1, 4);
        insert(1, 3, "XY");
        due(7, "delete", 1, 1, 1);
        due(3, "sync", 1, 0);
        text(0, "aXYf");
        due(4, "undo", 0);
        // b and c come in front of X, where their nodes are, d and e behind Y.
        text(0, "abcXYdef");
        due(2, "undo", 0);
        text(0, "bcXYde");
        due(MISSING, "undo", 0);
    }

    private void undoOrder() {
        insert(0, 0, "ab");
        insert(0, 1, "c");
        due(2, "delete", 0, 0, 1);
        text(0, "cb");
        due(1, "undo", 0);
        text(0, "acb");
        due(1, "undo", 0);
        text(0, "ab");
        insert(0, 2, "d");
        due(1, "undo", 0);
        // The a that was inserted again is no node of the first call.
        due(1, "undo", 0);
        text(0, "a");
        due(MISSING, "undo", 0);
        due(0, "insert", 0, 0);
        due(MISSING, "undo", 0);
    }

    private void lengthAndAt() {
        insert(2, 0, "aé中😀");
        due(4, "length", 2);
        due(97, "at", 2, 0);
        due(233, "at", 2, 1);
        due(20013, "at", 2, 2);
        due(128512, "at", 2, 3);
        due(ARGUMENT, "at", 2, 4);
        due(ARGUMENT, "at", 2, -1);
        due(ARGUMENT, "at", 1, 0);
        due(ARGUMENT, "at", 4, 0);
        due(ARGUMENT, "at", -1, 0);
        due(ARGUMENT, "length", 4);
        due(ARGUMENT, "length", -1);
        due(3, "delete", 2, 1, 1);
        due(20013, "at", 2, 1);
        due(ARGUMENT, "at", 2, 3);
    }

    private void line() {
        due(1, "line", 0, -1);
        insert(0, 0, "ab\n\ncd\n");
        due(4, "line", 0, -1);
        due(0, "line", 0, 0);
        due(3, "line", 0, 1);
        due(4, "line", 0, 2);
        due(7, "line", 0, 3);
        due(MISSING, "line", 0, 4);
        due(MISSING, "line", 0, -2);
        due(MISSING, "line", 0, LOW);
        due(MISSING, "line", 0, HIGH);
        due(ARGUMENT, "line", 4, -2);
        due(ARGUMENT, "line", -1, 0);
        due(6, "delete", 0, 2, 1);
        due(3, "line", 0, -1);
        due(3, "line", 0, 1);
    }

    private void find() {
        insert(0, 0, "abaXabab");
        due(7, "delete", 0, 3, 1);
        text(0, "abaabab");
        Wire.feed(x, "aba");
        due(0, "find", 0, 0);
        Wire.feed(x, "aba");
        due(3, "find", 0, 1);
        Wire.feed(x, "aba");
        due(-1, "find", 0, 4);
        Wire.feed(x, "ab");
        due(5, "find", 0, 4);
        Wire.feed(x, "abaababa");
        due(-1, "find", 0, 0);
        due(4, "find", 0, 4);
        due(7, "find", 0, 7);
        Wire.feed(x, "a");
        due(-1, "find", 0, 7);
        Wire.feed(x, "a");
        due(ARGUMENT, "find", 0, 8);
        due(ARGUMENT, "find", 0, -1);
        due(ARGUMENT, "find", 4, 0);
        due(0, "end", 1);
        due(0, "find", 0, 0);
        due(0, "end", 0);
    }

    private void blameAndEvents() {
        insert(3, 0, "abc");
        due(3, "sync", 3, 0);
        insert(0, 1, "x");
        due(3 * 4294967296L, "blame", 0, 0);
        due(0, "blame", 0, 1);
        due(3 * 4294967296L + 1, "blame", 0, 2);
        due(3 * 4294967296L + 2, "blame", 0, 3);
        due(ARGUMENT, "blame", 0, 4);
        due(ARGUMENT, "blame", 0, -1);
        due(ARGUMENT, "blame", 4, 0);
        load("1", 0, 0, Wire.patch(1, Wire.agents(255), Wire.plain("q"), new Wire.Span(0, 0, 1, new int[0], 0, 0)));
        due(255 * 4294967296L, "blame", 0, 4);
        due(5, "events", 0, -1);
        due(1, "events", 0, 0);
        due(3, "events", 0, 3);
        due(1, "events", 0, 255);
        due(0, "events", 0, 1);
        due(0, "events", 1, -1);
        due(ARGUMENT, "events", 0, 256);
        due(ARGUMENT, "events", 0, -2);
        due(ARGUMENT, "events", 4, 0);
    }

    private void graph() {
        insert(0, 0, "ab");
        due(1, "head", 0, 0);
        due(MISSING, "head", 0, 1);
        due(2, "critical", 0);
        due(2, "sync", 0, 1);
        due(2, "sync", 0, 2);
        insert(2, 2, "c");
        insert(1, 2, "d");
        insert(1, 0, "e");
        due(1, "sync", 2, 0);
        due(2, "sync", 1, 0);
        due(4294967297L, "head", 0, 0);
        due(2 * 4294967296L, "head", 0, 1);
        due(MISSING, "head", 0, 2);
        due(MISSING, "head", 0, -1);
        due(ARGUMENT, "head", 4, -1);
        due(2, "critical", 0);
        due(0, "related", 0, 1, 0, 1, 0);
        due(1, "related", 0, 0, 0, 2, 0);
        due(2, "related", 0, 1, 1, 0, 1);
        due(2, "related", 0, 1, 1, 1, 0);
        due(3, "related", 0, 1, 1, 2, 0);
        due(3, "related", 0, 2, 0, 1, 0);
        due(MISSING, "related", 0, 1, 2, 2, 0);
        due(MISSING, "related", 0, 1, 1, 2, 1);
        due(MISSING, "related", 0, 1, -1, 2, 0);
        due(MISSING, "related", 0, 1, 0, 2, LOW);
        due(MISSING, "related", 0, 1, HIGH, 255, 0);
        due(ARGUMENT, "related", 0, 256, -1, 2, 0);
        due(ARGUMENT, "related", 0, 1, 0, -1, 0);
        due(ARGUMENT, "related", -1, 1, 0, 1, 0);
        insert(0, 0, "f");
        due(2, "head", 0, 0);
        due(MISSING, "head", 0, 1);
        due(1, "related", 0, 1, 1, 0, 2);
        due(3, "critical", 0);
        due(ARGUMENT, "critical", 4);
        due(ARGUMENT, "critical", -1);
    }

    private void bookmarks() {
        due(0, "mark", 1, 0);
        due(0, "view", 1);
        due(ARGUMENT, "viewed", 0);
        insert(0, 0, "abc");
        due(3, "mark", 0, 0);
        due(1, "delete", 0, 0, 2);
        insert(0, 1, "d");
        due(6, "mark", 1, 0);
        due(3, "view", 0);
        due(97, "viewed", 0);
        due(98, "viewed", 1);
        due(99, "viewed", 2);
        due(ARGUMENT, "viewed", 3);
        due(ARGUMENT, "viewed", -1);
        due(0, "mark", 0, 3);
        due(98, "viewed", 1);
        due(MISSING, "view", 2);
        due(ARGUMENT, "view", 8);
        due(ARGUMENT, "view", -1);
        due(99, "viewed", 2);
        due(2, "view", 1);
        due(99, "viewed", 0);
        due(100, "viewed", 1);
        due(ARGUMENT, "viewed", 2);
        due(0, "view", 0);
        due(ARGUMENT, "mark", 8, 0);
        due(ARGUMENT, "mark", -1, 0);
        due(ARGUMENT, "mark", 0, 4);
        due(ARGUMENT, "mark", 0, -1);
        due(0, "view", 0);
    }

    private void hunks() {
        insert(0, 0, "abcdefgh");
        due(8, "mark", 0, 0);
        due(6, "delete", 0, 0, 2);
        insert(0, 0, "XYZ");
        due(8, "delete", 0, 5, 1);
        insert(0, 8, "!");
        insert(0, 5, "--");
        text(0, "XYZcd--fgh!");
        due(17, "mark", 1, 0);
        due(3, "differ", 0, 1);
        hunk(0, 0, 2, 0, 3);
        hunk(1, 4, 1, 5, 2);
        hunk(2, 8, 0, 10, 1);
        due(MISSING, "hunk", 3, 0);
        due(MISSING, "hunk", -1, 0);
        due(ARGUMENT, "hunk", -1, 4);
        due(ARGUMENT, "hunk", 0, -1);
        due(MISSING, "differ", 0, 2);
        due(MISSING, "differ", 2, 0);
        due(ARGUMENT, "differ", 8, 2);
        due(ARGUMENT, "differ", 2, -1);
        due(0, "mark", 2, 1);
        due(UNSUPPORTED, "differ", 0, 2);
        hunk(1, 4, 1, 5, 2);
        due(3, "differ", 1, 0);
        hunk(0, 0, 3, 0, 2);
        hunk(1, 5, 2, 4, 1);
        hunk(2, 10, 1, 8, 0);
        due(0, "differ", 1, 1);
        due(MISSING, "hunk", 0, 0);
        due(0, "differ", 2, 2);
        // As many hunks as can be, each of one for one.
        insert(3, 0, "ab".repeat(20));
        due(40, "mark", 4, 3);
        for (int k = 0; k < 20; k++) {
            due(39, "delete", 3, 2 * k, 1);
            insert(3, 2 * k, "c");
        }
        due(80, "mark", 5, 3);
        due(20, "differ", 4, 5);
        for (int k = 0; k < 20; k++) {
            hunk(k, 2 * k, 1, 2 * k, 1);
        }
        due(MISSING, "hunk", 20, 0);
    }

    private void anchors() {
        due("", "anchor", 3, 0, 0);
        due(0, "place", 3);
        insert(0, 0, "abcd");
        due(4, "place", 3);
        due("", "anchor", 0, 0, 2);
        due("", "anchor", 1, 0, 4);
        due("", "anchor", 7, 0, 0);
        insert(0, 2, "XX");
        insert(0, 0, "Y");
        due(5, "place", 0);
        due(7, "place", 1);
        due(1, "place", 7);
        due(4, "delete", 0, 3, 3);
        due(3, "place", 0);
        due(4, "place", 1);
        insert(0, 3, "Z");
        // The node of c is deleted, but it stays where it was in the order: behind what is inserted in front of d.
        text(0, "YabZd");
        due(4, "place", 0);
        due(MISSING, "place", 2);
        due(ARGUMENT, "place", 8);
        due(ARGUMENT, "place", -1);
        due(ARGUMENT, "anchor", 8, 0, 0);
        due(ARGUMENT, "anchor", -1, 0, 0);
        due(ARGUMENT, "anchor", 0, 4, 0);
        due(ARGUMENT, "anchor", 0, 0, 6);
        due(ARGUMENT, "anchor", 0, 0, -1);
        due(4, "place", 0);
    }

    private void announce() {
        due(8, "announce", 2, 5);
        message(5, Wire.message(2, 2, Wire.varints(0)));
        load("1", 0, 2, Wire.patch(1, Wire.agents(200), Wire.plain("q"), new Wire.Span(0, 0, 1, new int[0], 0, 0)));
        insert(2, 0, "x".repeat(130));
        due(14, "announce", 2, 5);
        message(5, Wire.message(2, 2, Wire.varints(2, 2, 130, 200, 1)));
        due(ARGUMENT, "announce", 4, 0);
        due(ARGUMENT, "announce", -1, 0);
        due(ARGUMENT, "announce", 0, 8);
        due(ARGUMENT, "announce", 0, -1);
        due(MISSING, "octet", 0, -1);
    }

    private void send() {
        due(14, "send", 0, 1, 0);
        message(0, Wire.patch(0, Wire.agents(), Wire.plain("")));
        insert(0, 0, "abc");
        byte[] all = Wire.patch(0, Wire.agents(0), Wire.plain("abc"), new Wire.Span(0, 0, 3, new int[0], 0, 0));
        due(all.length, "send", 0, -1, 7);
        message(7, all);
        due(8, "announce", 1, 2);
        due(0, "take", 0, 2);
        due(all.length, "send", 0, 1, 0);
        due(3, "take", 1, 0);
        due(10, "announce", 1, 2);
        due(0, "take", 0, 2);
        insert(0, 3, "d");
        byte[] rest = Wire.patch(0, Wire.agents(0), Wire.plain("d"), new Wire.Span(0, 3, 1, new int[] {0, 2}, 3, 0));
        due(rest.length, "send", 0, 1, 0);
        message(0, rest);
        // The latest summary counts, even if it tells of less; and one more of each other's.
        load("0", 0, 0, Wire.message(2, 1, Wire.varints(1, 0, 2)));
        due(Wire.patch(0, Wire.agents(0), Wire.plain("cd"), new Wire.Span(0, 2, 2, new int[] {0, 1}, 2, 0)).length,
            "send", 0, 1, 0);
        load("0", 0, 0, Wire.message(2, 0, Wire.varints(1, 0, HIGH)));
        due(14, "send", 0, 0, 0);
        due(all.length + 1, "send", 0, 2, 0);
        due(ARGUMENT, "send", 4, 0, 0);
        due(ARGUMENT, "send", -1, 0, 0);
        due(ARGUMENT, "send", 0, 4, 0);
        due(ARGUMENT, "send", 0, -2, 0);
        due(ARGUMENT, "send", 0, 0, 8);
        due(ARGUMENT, "send", 0, 0, -1);
    }

    private void sendSpans() {
        insert(1, 0, "abcdefgh");
        due(8, "sync", 1, 0);
        due(6, "delete", 1, 3, 2);
        due(4, "delete", 1, 2, 2);
        due(3, "delete", 1, 1, 1);
        insert(1, 1, "xy");
        due(2, "undo", 1);
        insert(0, 8, "z");
        due(9, "sync", 1, 0);
        insert(0, 0, "w");
        // One span for each run, as long as can be: indices 3, 3, then 2, 2, then 1.
        byte[] patch = Wire.patch(0, Wire.agents(1, 0), Wire.plain("abcdefghzxyw"),
            new Wire.Span(0, 0, 8, new int[0], 0, 0),
            new Wire.Span(1, 0, 1, null, 0, 0),
            new Wire.Span(0, 8, 2, new int[] {0, 7}, 3 - 9, 1),
            new Wire.Span(0, 10, 2, null, 2 - 3, 1),
            new Wire.Span(0, 12, 1, null, 1 - 2, 1),
            new Wire.Span(0, 13, 2, null, 0, 0),
            new Wire.Span(0, 15, 2, null, 2 - 3, 2),
            new Wire.Span(1, 1, 1, new int[] {1, 0, 0, 16}, 0, 0));
        due(patch.length, "send", 0, -1, 0);
        message(0, patch);
        due(19, "take", 3, 0);
        due(0, "take", 3, 0);
        due(19, "events", 3, -1);
    }

    private void sendPacks() {
        String text = "abcdabcdabcd" + "abce" + "bcdabc" + "y".repeat(70) + "abcdabcdabc";
        insert(0, 0, text);
        byte[] packed = Wire.join(
            Wire.varints(103, 2 * 4), "abcd".getBytes(),
            // A piece may reach into what it makes itself.
            Wire.varints(2 * 11 + 1, 4),
            Wire.varints(2 * 1), "e".getBytes(),
            // The same six bytes stand 15, 11 and 7 back: the least counts.
            Wire.varints(2 * 6 + 1, 7),
            Wire.varints(2 * 1), "y".getBytes(),
            // At most 64 at once.
            Wire.varints(2 * 64 + 1, 1),
            Wire.varints(2 * 5 + 1, 1),
            // Seven bytes stand 84 back, but eleven 88 back: the most count.
            Wire.varints(2 * 11 + 1, 88));
        byte[] patch = Wire.patch(0, Wire.agents(0), packed, new Wire.Span(0, 0, 103, new int[0], 0, 0));
        due(patch.length, "send", 0, -1, 0);
        message(0, patch);
        due(103, "take", 1, 0);
        text(1, text);
    }

    private void take() {
        insert(0, 0, "ab");
        x.call("send", 0, -1, 3);
        due(2, "take", 1, 3);
        due(0, "take", 1, 3);
        due(0, "take", 0, 3);
        text(1, "ab");
        due(ARGUMENT, "take", 4, 3);
        due(ARGUMENT, "take", -1, 3);
        due(ARGUMENT, "take", 0, 8);
        due(ARGUMENT, "take", 0, -1);
        due(MISSING, "take", 0, 4);
        due(97, "octet", 3, 17);
        due(97, "alter", 3, 17, 98);
        due(ARGUMENT, "take", 2, 3);
        due(1, "fault");
        due(MISSING, "take", 0, 4);
        due(ARGUMENT, "take", 0, 8);
        due(1, "fault");
        due(98, "alter", 3, 17, 97);
        due(2, "take", 2, 3);
        due(0, "fault");
    }

    private void takeLate() {
        insert(0, 0, "ab");
        x.call("send", 0, -1, 0);
        due(2, "sync", 0, 1);
        due(0, "sync", 0, 1);
        insert(0, 2, "c");
        x.call("send", 0, 1, 1);
        due(MISSING, "take", 2, 1);
        due(5, "fault");
        due(0, "events", 2, -1);
        due(2, "take", 2, 0);
        due(1, "take", 2, 1);
        due(0, "take", 2, 0);
        text(2, "abc");
    }

    private static Wire.Span span(int number, int size, int[] parents, int step, int kind) {
        return new Wire.Span(0, number, size, parents, step, kind);
    }

    private void load() {
        byte[] good = Wire.patch(1, Wire.agents(9), Wire.plain("ab"), span(0, 2, new int[0], 0, 0));
        load("2", 0, 0, good);
        load("0", 0, 0, good);
        due(0, "end", 0);
        due(ARGUMENT, "load", 0);
        due(1, "fault");
        Wire.feed(x, good);
        due(ARGUMENT, "load", 4);
        due(ARGUMENT, "load", -1);
        due(0, "end", good.length);
        due(2, "load", 3);
        text(3, "ab");
    }

    /** Fault 1. */
    private void frames() {
        byte[] good = Wire.patch(1, Wire.agents(9), Wire.plain("ab"), span(0, 2, new int[0], 0, 0));
        for (int k = 0; k < good.length; k++) {
            byte[] one = good.clone();
            one[k] ^= 1 << k % 8;
            load(ARGUMENT, 1, 1, one);
            load(ARGUMENT, 1, 1, Arrays.copyOf(good, k));
        }
        load(ARGUMENT, 1, 1, Wire.message(0, 0, Wire.varints(0)));
        load(ARGUMENT, 1, 1, Wire.message(3, 0, Wire.varints(0)));
        load(ARGUMENT, 1, 1, Wire.message(2, 4, Wire.varints(0)));
        load(ARGUMENT, 1, 1, Wire.seal(Wire.bytes(87, 2)));
        load(ARGUMENT, 1, 1, Wire.seal(Wire.bytes(88, 2, 0, 0)));
        load(ARGUMENT, 2, 1, Wire.seal(Wire.bytes(87, 2, 3)));
        load(ARGUMENT, 2, 1, Wire.seal(Wire.bytes(87, 1, 3)));
        due(0, "events", 1, -1);
    }

    /** Fault 2. */
    private void bodies() {
        byte[][] summaries = {
            Wire.varints(1), Wire.varints(1, 5), Wire.varints(1, 5, 0), Wire.varints(1, 256, 1),
            Wire.varints(2, 5, 1, 5, 1), Wire.varints(2, 5, 1, 4, 1), Wire.varints(1, 5, 1, 0), Wire.varints(0, 0),
            Wire.bytes(0x80, 0), Wire.bytes(1, 5, 0x81, 0), Wire.bytes(1, 5, 255, 255, 255, 255, 8),
            Wire.bytes(1, 5, 255, 255, 255, 255, 0x87, 0), Wire.bytes(0x80)
        };
        for (byte[] body : summaries) {
            load(ARGUMENT, 2, 1, Wire.message(2, 0, body));
        }
        load("0", 0, 1, Wire.message(2, 0, Wire.bytes(1, 5, 255, 255, 255, 255, 7)));
        load("0", 0, 1, Wire.message(2, 3, Wire.varints(2, 0, 1, 255, 1)));
        byte[] none = new byte[0];
        byte[] zero = Wire.varints(0);
        load("0", 0, 1, Wire.message(1, 0, Wire.columns(zero, none, none, none, zero)));
        load(ARGUMENT, 2, 1, Wire.message(1, 0, Wire.join(Wire.columns(zero, none, none, none, zero), zero)));
        load(ARGUMENT, 2, 1, Wire.message(1, 0, Wire.bytes(1, 0, 0, 0, 0)));
        load(ARGUMENT, 2, 1, Wire.message(1, 0, Wire.bytes(1, 0, 0, 0, 0, 2, 0)));
        byte[][] agents = {
            none, Wire.varints(1), Wire.varints(1, 256), Wire.varints(2, 7, 7), Wire.varints(1, 7, 8),
            Wire.varints(0, 0), Wire.bytes(1, 0x87, 0)
        };
        for (byte[] list : agents) {
            // The list is looked at ahead of the text, which is wrong, too.
            load(ARGUMENT, 2, 1, Wire.message(1, 0, Wire.columns(list, none, none, none, none)));
        }
        byte[] all = Wire.varints(256);
        for (int k = 255; k >= 0; k--) {
            all = Wire.join(all, Wire.varints(k));
        }
        load("0", 0, 1, Wire.message(1, 0, Wire.columns(all, none, none, none, zero)));
        load(ARGUMENT, 2, 1,
            Wire.message(1, 0, Wire.columns(Wire.join(Wire.varints(257), all), none, none, none, zero)));
        due(0, "events", 1, -1);
    }

    /** Fault 3; the spans are wrong, too, but are looked at behind the text. */
    private void texts() {
        byte[] a = "a".getBytes();
        byte[][] bad = {
            new byte[0], Wire.varints(0, 0), Wire.varints(1), Wire.varints(1, 2), Wire.varints(1, 0),
            Wire.varints(32769), Wire.join(Wire.varints(1, 2), a, a), Wire.join(Wire.varints(1, 4), a, a),
            Wire.join(Wire.varints(2, 2), a), Wire.join(Wire.varints(4, 2), a, Wire.varints(7, 1)),
            Wire.join(Wire.varints(5, 2), a, Wire.varints(9, 2)), Wire.join(Wire.varints(5, 2), a, Wire.varints(9, 0)),
            Wire.join(Wire.varints(4, 2), a, Wire.varints(9, 1)), Wire.join(Wire.varints(5, 2), a, Wire.varints(9)),
            Wire.varints(4, 9, 1), Wire.join(Wire.varints(5, 2), a, Wire.varints(1, 1)),
            Wire.join(Wire.varints(5, 2), a, Wire.varints(0, 9, 1)), Wire.join(Wire.varints(1, 2), Wire.bytes(128)),
            Wire.join(Wire.varints(2, 4), Wire.bytes(0xc3), a),
            Wire.join(Wire.varints(5, 2), a, Wire.varints(7, 1), Wire.varints(9, 1)),
            Wire.join(Wire.varints(5, 2), a, Wire.varints(9, 2), Wire.varints(9, 1))
        };
        for (byte[] text : bad) {
            load(ARGUMENT, 3, 1, Wire.patch(1, Wire.agents(9), text, span(0, 1, null, 0, 0)));
        }
        byte[] five = Wire.join(Wire.varints(5, 2), a, Wire.varints(9, 1));
        load(ARGUMENT, 4, 1, Wire.patch(1, Wire.agents(9), five, span(0, 4, new int[0], 0, 0)));
        load("5", 0, 2, Wire.patch(1, Wire.agents(9), five, span(0, 5, new int[0], 0, 0)));
        text(2, "aaaaa");
        due(0, "events", 1, -1);
    }

    /** Fault 4. */
    private void spans() {
        byte[] one = Wire.plain("a");
        byte[] none = Wire.plain("");
        byte[] nine = Wire.agents(9);
        int[] root = {};
        load(ARGUMENT, 4, 1, Wire.patch(1, nine, one, span(0, 1, null, 0, 0)));
        load(ARGUMENT, 4, 1, Wire.patch(1, nine, one, span(0, 2, root, 0, 0)));
        load(ARGUMENT, 4, 1, Wire.patch(1, nine, none, span(0, 1, root, 0, 0)));
        load(ARGUMENT, 4, 1, Wire.patch(1, nine, one, span(0, 1, root, 0, 1)));
        load(ARGUMENT, 4, 1, Wire.patch(1, nine, one));
        load(ARGUMENT, 4, 1, Wire.patch(1, nine, none, span(0, 0, root, 0, 1)));
        load(ARGUMENT, 4, 1, Wire.patch(1, nine, one, new Wire.Span(1, 0, 1, root, 0, 0)));
        load(ARGUMENT, 4, 1, Wire.patch(1, nine, one, span(0, 1, new int[] {1, 0}, 0, 0)));
        load(ARGUMENT, 4, 1, Wire.patch(1, nine, one, span(0, 1, root, -1, 0)));
        load(ARGUMENT, 4, 1, Wire.patch(1, nine, none, span(0, 3, root, 1, 2)));
        load(ARGUMENT, 4, 1, Wire.patch(1, nine, none, span(0, 8193, root, 0, 1)));
        load(ARGUMENT, 4, 1, Wire.patch(1, nine, none, span(0, 8192, root, 0, 1), span(8192, 1, null, 0, 1)));
        load(ARGUMENT, 4, 1, Wire.patch(1, nine, none, span(0, HIGH, root, 0, 1)));
        load(ARGUMENT, 4, 1, Wire.patch(1, nine, none, span(0, 5000, root, 0, 1), span(5000, 5000, null, 0, 1)));
        load(UNSUPPORTED, 6, 1, Wire.patch(1, nine, none, span(0, 8000, root, 0, 1), span(8000, 192, null, 0, 1)));
        byte[] empty = {};
        byte[] row = Wire.varints(0, 0, 1);
        byte[][][] bad = {
            {row, empty, Wire.varints(0)}, {row, Wire.varints(1), empty}, {empty, Wire.varints(1), empty},
            {empty, empty, Wire.varints(0)}, {Wire.varints(0, 0), Wire.varints(1), Wire.varints(0)},
            {row, Wire.varints(1, 0), Wire.varints(0)}, {row, Wire.varints(1), Wire.varints(0, 0)},
            {row, Wire.varints(2), Wire.varints(0)}, {row, Wire.varints(2, 0), Wire.varints(0)},
            {row, Wire.bytes(0x81, 0), Wire.varints(0)}, {row, Wire.varints(HIGH), Wire.varints(0)},
            {row, Wire.varints(1), Wire.bytes(0x80)}, {Wire.join(row, Wire.varints(0)), Wire.varints(1), Wire.varints(0)}
        };
        for (byte[][] columns : bad) {
            load(ARGUMENT, 4, 1, Wire.message(1, 0, Wire.columns(nine, columns[0], columns[1], columns[2], one)));
        }
        due(0, "events", 1, -1);
    }

    /** Faults 5 and 6: what was in front of them has come in. */
    private void events() {
        byte[] ab = Wire.plain("ab");
        byte[] one = Wire.plain("c");
        byte[] none = Wire.plain("");
        byte[] nine = Wire.agents(9);
        byte[] both = Wire.agents(9, 8);
        int[] root = {};
        load(MISSING, 5, 1, Wire.patch(1, nine, ab, span(1, 2, root, 0, 0)));
        load(MISSING, 5, 1, Wire.patch(1, nine, ab, span(0, 1, root, 0, 0), span(2, 1, null, 0, 0)));
        due(1, "events", 1, -1);
        load("1", 0, 1, Wire.patch(1, nine, ab, span(0, 2, root, 0, 0)));
        text(1, "ab");
        load(MISSING, 5, 1, Wire.patch(1, nine, one, span(HIGH, 1, root, 0, 0)));
        load(MISSING, 5, 1, Wire.patch(1, nine, one, span(2, 1, new int[] {0, 2}, 0, 0)));
        load(MISSING, 5, 1, Wire.patch(1, both, one, span(2, 1, new int[] {0, 1, 1, 0}, 0, 0)));
        load(MISSING, 5, 1, Wire.patch(1, both, one, span(2, 1, new int[] {0, 1, 0, 1, 0, 9}, 0, 0)));
        load(UNSUPPORTED, 6, 1, Wire.patch(1, nine, one, span(2, 1, new int[] {0, 1, 0, 1}, 0, 0)));
        load(UNSUPPORTED, 6, 1, Wire.patch(1, nine, one, span(2, 1, new int[] {0, 0, 0, 1}, 0, 0)));
        load(UNSUPPORTED, 6, 1, Wire.patch(1, nine, one, span(2, 1, new int[] {0, 1, 0, 0}, 0, 0)));
        load(UNSUPPORTED, 6, 1, Wire.patch(1, nine, one, span(2, 1, new int[] {0, 0}, 0, 0)));
        load(UNSUPPORTED, 6, 1, Wire.patch(1, nine, one, span(2, 1, root, 0, 0)));
        load(UNSUPPORTED, 6, 1, Wire.patch(1, nine, one, span(2, 1, new int[] {0, 1}, 3, 0)));
        load(UNSUPPORTED, 6, 1, Wire.patch(1, nine, none, span(2, 1, new int[] {0, 1}, 2, 1)));
        load(UNSUPPORTED, 6, 1, Wire.patch(1, nine, none, span(2, 1, new int[] {0, 1}, 350000000, 1)));
        int[] many = new int[40];
        for (int k = 0; k < many.length; k += 2) {
            many[k + 1] = 1;
        }
        load(UNSUPPORTED, 6, 1, Wire.patch(1, nine, one, span(2, 1, many, 0, 0)));
        many[39] = 2;
        load(MISSING, 5, 1, Wire.patch(1, nine, one, span(2, 1, many, 0, 0)));
        due(2, "events", 1, -1);
        load(UNSUPPORTED, 6, 1, Wire.patch(1, nine, none, span(2, 3, new int[] {0, 1}, 0, 1)));
        due(4, "events", 1, -1);
        text(1, "");
        // A known event is passed over, whatever it says; the next one hangs on it all the same.
        load("1", 0, 1, Wire.patch(1, nine, Wire.plain("xyz"), span(3, 1, new int[] {0, 77}, 999, 1),
            new Wire.Span(0, 1, 2, new int[] {0, 55}, 50, 0), span(4, 1, new int[] {0, 3}, -1051, 0)));
        text(1, "z");
        load("1", 0, 1, Wire.patch(1, both, one, new Wire.Span(1, 0, 1, root, 0, 0)));
        due(2, "length", 1);
        load(UNSUPPORTED, 6, 1, Wire.patch(1, Wire.agents(7), one, span(0, 1, root, 1, 0)));
    }

    private void sync() {
        insert(0, 0, "ab");
        due(2, "sync", 0, 1);
        due(0, "sync", 0, 1);
        due(0, "sync", 1, 0);
        due(0, "sync", 0, 0);
        insert(1, 2, "c");
        insert(0, 2, "d");
        due(1, "sync", 0, 1);
        due(1, "sync", 1, 0);
        text(0, "abdc");
        text(1, "abdc");
        due(MISSING, "octet", 0, -1);
        due(ARGUMENT, "sync", 4, 0);
        due(ARGUMENT, "sync", 0, 4);
        due(ARGUMENT, "sync", -1, 0);
        due(ARGUMENT, "sync", 0, -1);
        due(0, "fault");
        // What from knows of to is the summary that it took, from before the patch.
        due(Wire.patch(0, Wire.agents(0), Wire.plain("d"), new Wire.Span(0, 2, 1, new int[] {0, 1}, 2, 0)).length,
            "send", 0, 1, 0);
        // Peer 2 calls another event (0, 0) its own: what comes of the rest does not fit it.
        load("1", 0, 2, Wire.patch(1, Wire.agents(0), Wire.plain("q"), new Wire.Span(0, 0, 1, new int[0], 0, 0)));
        due(0, "length", 3);
        due(1, "sync", 2, 3);
        load("1", 0, 3, Wire.patch(1, Wire.agents(0), Wire.plain(""), new Wire.Span(0, 1, 1, new int[] {0, 0}, 0, 1)));
        due(UNSUPPORTED, "sync", 0, 3);
        due(6, "fault");
        due(UNSUPPORTED, "take", 3, 0);
    }

    private void alterAndOctet() {
        due(8, "announce", 0, 2);
        due(87, "octet", 2, 0);
        due(2, "octet", 2, 1);
        due(8, "octet", 2, -1);
        due(ARGUMENT, "octet", 2, 8);
        due(ARGUMENT, "octet", 2, -2);
        due(ARGUMENT, "octet", 8, 0);
        due(ARGUMENT, "octet", -1, 0);
        due(MISSING, "octet", 1, 0);
        due(MISSING, "octet", 1, HIGH);
        due(ARGUMENT, "octet", 1, -2);
        due(0, "alter", 2, 3, 255);
        due(255, "octet", 2, 3);
        due(255, "alter", 2, 3, 0);
        due(ARGUMENT, "alter", 2, 3, 256);
        due(ARGUMENT, "alter", 2, 3, -1);
        due(ARGUMENT, "alter", 2, 8, 0);
        due(ARGUMENT, "alter", 2, -1, 0);
        due(ARGUMENT, "alter", 8, 0, 0);
        due(ARGUMENT, "alter", -1, 0, 0);
        due(MISSING, "alter", 1, 0, 0);
        due(MISSING, "alter", 1, HIGH, 0);
        due(ARGUMENT, "alter", 1, 0, 256);
        due(0, "take", 1, 2);
    }

    private void fault() {
        due(0, "fault");
        load(ARGUMENT, 1, 0, Wire.bytes(1, 2, 3));
        due(MISSING, "take", 0, 0);
        due(ARGUMENT, "take", 4, 0);
        due(ARGUMENT, "load", 4);
        due(ARGUMENT, "sync", 0, 4);
        due(1, "fault");
        due(8, "announce", 0, 0);
        due(1, "fault");
        due(0, "take", 1, 0);
        due(0, "fault");
        load(ARGUMENT, 2, 0, Wire.message(2, 0, Wire.varints(1)));
        due(0, "sync", 0, 1);
        due(0, "fault");
    }

    private void crossed() {
        insert(0, 0, "ab");
        due(2, "sync", 0, 1);
        insert(0, 1, "X");
        insert(1, 1, "Y");
        due(1, "sync", 0, 1);
        due(1, "sync", 1, 0);
        due(0, "crossed");
        due(ARGUMENT, "load", 4);
        due(0, "crossed");
        due(12, "announce", 0, 0);
        due(87, "alter", 0, 0, 87);
        due(ARGUMENT, "alter", 0, 0, 256);
        due(0, "crossed");
        due(87, "alter", 0, 0, 88);
        due(-1, "crossed");
        due(88, "alter", 0, 0, 87);
        due(-1, "crossed");
    }

    private void tree() {
        insert(0, 0, "ab");
        due(2, "sync", 0, 1);
        due(2, "sync", 0, 2);
        due(2, "sync", 0, 3);
        // All hang at the left of b: ordered by their ids, and the runs stay together.
        insert(3, 1, "333");
        insert(2, 1, "222");
        insert(1, 1, "111");
        for (int from = 1; from < 4; from++) {
            due(3, "sync", from, 0);
        }
        text(0, "a111222333b");
        for (int to = 1; to < 4; to++) {
            due(6, "sync", 0, to);
            text(to, "a111222333b");
        }
        due(0, "crossed");
        // Both delete the same one: it is deleted once.
        due(10, "delete", 1, 0, 1);
        due(10, "delete", 2, 0, 1);
        due(1, "sync", 1, 2);
        due(10, "length", 2);
        due(1, "sync", 2, 1);
        text(1, "111222333b");
        // Backwards typing of one does not run into that of another.
        insert(1, 0, "x");
        insert(1, 0, "y");
        insert(2, 0, "p");
        insert(2, 0, "q");
        due(2, "sync", 1, 2);
        due(2, "sync", 2, 1);
        text(1, "yxqp111222333b");
        text(2, "yxqp111222333b");
    }

    private void treeLeft() {
        insert(0, 0, "abc");
        due(2, "delete", 0, 1, 1);
        insert(0, 1, "X");
        // X hangs at the left of b, which is deleted; Y at the left of X, as that is the next behind a.
        insert(0, 1, "Y");
        due(6, "sync", 0, 1);
        insert(0, 3, "P");
        insert(1, 3, "Q");
        due(1, "sync", 1, 0);
        due(1, "sync", 0, 1);
        text(0, "aYXPQc");
        text(1, "aYXPQc");
    }
}
