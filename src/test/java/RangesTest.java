import java.util.ArrayList;
import java.util.Arrays;
import java.util.List;
import java.util.function.Consumer;

/**
 * "All numbers out of range: IllegalArgumentException, first." and "a call that throws changes nothing but
 * what is told": each call that throws is made on an object that has some of everything, which is then held
 * against one on which the call was not made.
 */
public final class RangesTest extends Bench {
    private static final int[] ANY = {LOW, HIGH};
    private static final int[] PEER = {0, 3};
    private static final int[] EIGHT = {0, 7};
    private static final int[] AGENT_RANGE = {0, 255};

    /** A call with arguments that are in range, and of each the least and the greatest that are. */
    private record Row(String call, int[] args, int[]... ranges) {
    }

    private RangesTest(Calls x, String name) {
        super(x, name);
    }

    public static void main(String[] args) {
        for (Row row : richRows()) {
            outOfRange("some of everything", RangesTest::furnish, row);
        }
        for (Row row : bareRows()) {
            outOfRange("a new object", RangesTest::furnishBare, row);
        }
        refusals();
        fullRefusals();
        toldChanges();
        finish("numbers out of range and of calls that throw");
    }

    private static void furnishBare(Calls x) {
        // No text, and no message: what is out of range is told ahead of that.
        Wire.feed(x, Wire.bytes(255, 255));
    }

    private static void furnish(Calls x) {
        write(x, 0, 0, "ab\ncd");
        x.call("sync", 0, 1);
        x.call("sync", 0, 2);
        write(x, 1, 5, "éf");
        x.call("delete", 2, 0, 1);
        write(x, 2, 0, "Z");
        x.call("sync", 1, 0);
        x.call("sync", 2, 0);
        x.call("mark", 0, 0);
        x.call("delete", 0, 1, 2);
        write(x, 0, 3, "ghi");
        x.call("mark", 1, 0);
        x.call("mark", 2, 1);
        x.call("view", 0);
        x.call("differ", 0, 1);
        x.call("anchor", 0, 0, 1);
        x.call("anchor", 7, 1, 7);
        x.call("announce", 1, 1);
        x.call("take", 0, 1);
        x.call("send", 0, 1, 0);
        x.call("send", 0, -1, 2);
        // Peer 3 lacks what peer 1 has: the latest fault is 5.
        x.call("take", 3, 0);
        Wire.feed(x, "xy");
    }

    /** Peer 0 has 8192 events, and the tape one character more. */
    private static void furnishFull(Calls x) {
        Wire.feed(x, Wire.run(9, 8189));
        x.call("load", 0);
        write(x, 0, 0, "bc");
        x.call("delete", 0, 2, 1);
        Wire.feed(x, "xy");
    }

    private static void write(Calls x, int peer, int index, String text) {
        Wire.feed(x, text);
        x.call("insert", peer, index);
    }

    private static Row row(String call, int[] args, int[]... ranges) {
        return new Row(call, args, ranges);
    }

    private static int[] ints(int... values) {
        return values;
    }

    /** The text of peer 0 has 8 characters then, the view 7, the tape 2, the message in slot 1 has 12 bytes. */
    private static List<Row> richRows() {
        int[] none = {};
        return List.of(
            row("end", ints(1), ints(0, 2)),
            row("insert", ints(0, 0), PEER, ints(0, 8)),
            row("delete", ints(0, 2, 3), PEER, ints(0, 5), ints(1, 6)),
            row("undo", ints(0), PEER),
            row("length", ints(0), PEER),
            row("at", ints(0, 0), PEER, ints(0, 7)),
            row("line", ints(0, 0), PEER, ANY),
            row("find", ints(0, 0), PEER, ints(0, 8)),
            row("blame", ints(0, 0), PEER, ints(0, 7)),
            row("events", ints(0, 0), PEER, ints(-1, 255)),
            row("head", ints(0, 0), PEER, ANY),
            row("related", ints(0, 0, 0, 1, 0), PEER, AGENT_RANGE, ANY, AGENT_RANGE, ANY),
            row("critical", ints(0), PEER),
            row("mark", ints(0, 0), EIGHT, PEER),
            row("view", ints(0), EIGHT),
            row("viewed", ints(0), ints(0, 6)),
            row("differ", ints(0, 1), EIGHT, EIGHT),
            row("hunk", ints(0, 0), ANY, ints(0, 3)),
            row("anchor", ints(0, 0, 0), EIGHT, PEER, ints(0, 8)),
            row("place", ints(0), EIGHT),
            row("announce", ints(0, 0), PEER, EIGHT),
            row("send", ints(0, 1, 0), PEER, ints(-1, 3), EIGHT),
            row("take", ints(1, 0), PEER, EIGHT),
            row("load", ints(0), PEER),
            row("sync", ints(0, 1), PEER, PEER),
            row("alter", ints(1, 0, 0), EIGHT, ints(0, 11), AGENT_RANGE),
            row("octet", ints(1, 0), EIGHT, ints(-1, 11)),
            row("fault", none),
            row("crossed", none));
    }

    private static List<Row> bareRows() {
        return List.of(
            row("insert", ints(0, 0), PEER, ints(0, 0)),
            row("undo", ints(0), PEER),
            row("line", ints(0, 7), PEER, ANY),
            row("find", ints(0, 0), PEER, ints(0, 0)),
            row("head", ints(0, 0), PEER, ANY),
            row("related", ints(0, 0, 0, 1, 0), PEER, AGENT_RANGE, ANY, AGENT_RANGE, ANY),
            row("view", ints(0), EIGHT),
            row("differ", ints(0, 1), EIGHT, EIGHT),
            row("hunk", ints(0, 0), ANY, ints(0, 3)),
            row("place", ints(0), EIGHT),
            row("take", ints(1, 0), PEER, EIGHT),
            row("load", ints(0), PEER),
            row("alter", ints(0, 0, 0), EIGHT, ANY, AGENT_RANGE),
            row("octet", ints(0, 0), EIGHT, ints(-1, HIGH)));
    }

    private static void outOfRange(String where, Consumer<Calls> furnish, Row row) {
        for (int k = 0; k < row.ranges.length; k++) {
            int least = row.ranges[k][0];
            int most = row.ranges[k][1];
            if (least > LOW) {
                refused(where, furnish, ARGUMENT, row.call, with(row.args, k, least - 1));
                refused(where, furnish, ARGUMENT, row.call, with(row.args, k, LOW));
            }
            if (most < HIGH) {
                refused(where, furnish, ARGUMENT, row.call, with(row.args, k, most + 1));
                refused(where, furnish, ARGUMENT, row.call, with(row.args, k, HIGH));
            }
            inRange(where, furnish, row.call, with(row.args, k, least));
            inRange(where, furnish, row.call, with(row.args, k, most));
        }
    }

    private static int[] with(int[] args, int k, int value) {
        int[] row = args.clone();
        row[k] = value;
        return row;
    }

    private static void inRange(String where, Consumer<Calls> furnish, String call, int... args) {
        Real x = new Real();
        furnish.accept(x);
        String got = x.call(call, args);
        // Peer 3 has no character that these could be of, and the tape no message for any peer.
        boolean refusable = call.equals("load") || args[0] == 3 && List.of("delete", "at", "blame").contains(call);
        new RangesTest(x, where).check(refusable || !got.equals(ARGUMENT),
            call + Arrays.toString(args) + " was refused, but is in range");
    }

    /** The call throws, and the object is then as one on which it was not made. */
    private static void refused(String where, Consumer<Calls> furnish, String want, String call, int... args) {
        Real x = new Real();
        furnish.accept(x);
        RangesTest test = new RangesTest(x, where);
        test.due(want, call, args);
        Real twin = new Real();
        furnish.accept(twin);
        test.same(Dump.of(x, true), Dump.of(twin, true), "behind " + call);
        test.withinCalls();
    }

    private void same(List<String> got, List<String> want, String where) {
        List<String> unlike = new ArrayList<>(got);
        unlike.removeAll(want);
        check(got.equals(want), where + " there is " + unlike);
    }

    private static void refused(String want, String call, int... args) {
        refused("some of everything", RangesTest::furnish, want, call, args);
    }

    private static void refusals() {
        refused(MISSING, "undo", 3);
        refused(MISSING, "line", 0, 2);
        refused(MISSING, "line", 0, -2);
        refused(MISSING, "line", 0, HIGH);
        refused(MISSING, "head", 0, 2);
        refused(MISSING, "head", 0, -1);
        refused(MISSING, "head", 3, 0);
        refused(MISSING, "related", 0, 0, 99, 0, 0);
        refused(MISSING, "related", 0, 0, 0, 255, 0);
        refused(MISSING, "related", 0, 0, 0, 0, -1);
        refused(MISSING, "view", 5);
        refused(MISSING, "differ", 0, 5);
        refused(MISSING, "differ", 5, 0);
        refused(UNSUPPORTED, "differ", 0, 2);
        refused(MISSING, "hunk", 2, 0);
        refused(MISSING, "hunk", -1, 3);
        refused(MISSING, "place", 3);
        refused(MISSING, "take", 0, 7);
        refused(MISSING, "alter", 7, 0, 0);
        refused(MISSING, "octet", 7, -1);
        refused(ARGUMENT, "alter", 1, 12, 0);
        refused(ARGUMENT, "alter", 1, -1, 0);
    }

    private static void fullRefusals() {
        refused("a full graph", RangesTest::furnishFull, STATE, "delete", 0, 0, 1);
        refused("a full graph", RangesTest::furnishFull, STATE, "undo", 0);
    }

    /** Calls that throw and change just what is told: the tape is empty then, or the fault is another. */
    private static void toldChanges() {
        told(RangesTest::furnishFull, true, STATE, "insert", 0, 0);
        Consumer<Calls> noText = x -> {
            furnish(x);
            x.call("end", 0);
            Wire.feed(x, Wire.bytes(97, 255));
        };
        told(noText, true, UNSUPPORTED, "insert", 0, 0);
        told(noText, true, UNSUPPORTED, "find", 0, 0);
        Consumer<Calls> touched = x -> {
            furnish(x);
            // Once something was loaded, crossed tells it; so it is told of the twin, too.
            x.call("load", 2);
            Wire.feed(x, "xy");
        };
        told(touched, false, ARGUMENT, "load", 0);
        Consumer<Calls> altered = x -> {
            furnish(x);
            x.call("end", 0);
            x.call("alter", 2, 9, 77);
        };
        told(altered, false, ARGUMENT, "take", 1, 2);
        Consumer<Calls> emptied = x -> {
            furnish(x);
            x.call("end", 0);
        };
        told(emptied, true, MISSING, "take", 3, 0);
    }

    private static void told(Consumer<Calls> furnish, boolean withFault, String want, String call, int... args) {
        Real x = new Real();
        furnish.accept(x);
        RangesTest test = new RangesTest(x, "what is told");
        test.due(want, call, args);
        Real twin = new Real();
        furnish.accept(twin);
        twin.call("end", 0);
        test.same(Dump.of(x, withFault), Dump.of(twin, withFault), "behind " + call);
        test.withinCalls();
    }
}
