import java.util.NoSuchElementException;

/** The program under test, called by name. */
final class Real implements Calls {
    private final WeaveText x = new WeaveText();
    private int calls = 0;

    int calls() {
        return calls;
    }

    @Override
    public String call(String name, int... a) {
        calls++;
        try {
            return answer(name, a);
        } catch (IllegalArgumentException | IllegalStateException | UnsupportedOperationException
            | NoSuchElementException e) {
            return "throws." + e.getClass().getSimpleName();
        }
    }

    private String answer(String name, int[] a) {
        switch (name) {
            case "feed": x.feed(a[0], a[1], a[2], a[3], a[4]); return "";
            case "end": return "" + x.end(a[0]);
            case "insert": return "" + x.insert(a[0], a[1]);
            case "delete": return "" + x.delete(a[0], a[1], a[2]);
            case "undo": return "" + x.undo(a[0]);
            case "length": return "" + x.length(a[0]);
            case "at": return "" + x.at(a[0], a[1]);
            case "line": return "" + x.line(a[0], a[1]);
            case "find": return "" + x.find(a[0], a[1]);
            case "blame": return "" + x.blame(a[0], a[1]);
            case "events": return "" + x.events(a[0], a[1]);
            case "head": return "" + x.head(a[0], a[1]);
            case "related": return "" + x.related(a[0], a[1], a[2], a[3], a[4]);
            case "critical": return "" + x.critical(a[0]);
            case "mark": return "" + x.mark(a[0], a[1]);
            case "view": return "" + x.view(a[0]);
            case "viewed": return "" + x.viewed(a[0]);
            case "differ": return "" + x.differ(a[0], a[1]);
            case "hunk": return "" + x.hunk(a[0], a[1]);
            case "anchor": x.anchor(a[0], a[1], a[2]); return "";
            case "place": return "" + x.place(a[0]);
            case "announce": return "" + x.announce(a[0], a[1]);
            case "send": return "" + x.send(a[0], a[1], a[2]);
            case "take": return "" + x.take(a[0], a[1]);
            case "load": return "" + x.load(a[0]);
            case "sync": return "" + x.sync(a[0], a[1]);
            case "alter": return "" + x.alter(a[0], a[1], a[2]);
            case "octet": return "" + x.octet(a[0], a[1]);
            case "fault": return "" + x.fault();
            case "crossed": return "" + x.crossed();
            default: throw new AssertionError(name);
        }
    }
}
