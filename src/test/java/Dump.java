import java.util.ArrayList;
import java.util.List;

/** All that can be asked of an object, so that two of them can be held against one another. */
final class Dump {
    private final Calls x;
    private final List<String> lines = new ArrayList<>();

    private Dump(Calls x) {
        this.x = x;
    }

    /** What is asked last changes the object: it is of no use then. The fault may be left out. */
    static List<String> of(Calls x, boolean withFault) {
        Dump dump = new Dump(x);
        if (withFault) {
            dump.ask("fault");
        }
        dump.ask("crossed");
        for (int p = 0; p < 4; p++) {
            dump.peer(p);
        }
        dump.kept();
        dump.slots();
        dump.hidden();
        return dump.lines;
    }

    private void ask(String call, int... args) {
        StringBuilder line = new StringBuilder(call);
        for (int arg : args) {
            line.append(' ').append(arg);
        }
        lines.add(line + " = " + x.call(call, args));
    }

    private void peer(int p) {
        ask("length", p);
        ask("critical", p);
        ask("line", p, -1);
        ask("line", p, 1);
        for (int agent : new int[] {-1, 0, 1, 2, 3, 9}) {
            ask("events", p, agent);
        }
        for (int k = 0; k < 3; k++) {
            ask("head", p, k);
        }
        for (int k = 0; k < 8; k++) {
            ask("at", p, k);
            ask("blame", p, k);
        }
    }

    private void kept() {
        for (int k = 0; k < 8; k++) {
            ask("viewed", k);
            ask("place", k);
        }
        for (int k = 0; k < 3; k++) {
            for (int what = 0; what < 4; what++) {
                ask("hunk", k, what);
            }
        }
    }

    private void slots() {
        for (int slot = 0; slot < 8; slot++) {
            for (int place : new int[] {-1, 0, 2, 5, 9, 14, 20}) {
                ask("octet", slot, place);
            }
        }
    }

    /** The tape, the bookmarks, what the peers know of each other, and the calls that they may undo. */
    private void hidden() {
        ask("end", 1);
        ask("insert", 3, 0);
        ask("at", 3, 0);
        for (int b = 0; b < 8; b++) {
            ask("view", b);
            ask("viewed", 0);
        }
        ask("differ", 0, 1);
        ask("hunk", 0, 0);
        for (int p = 0; p < 4; p++) {
            for (int q = 0; q < 4; q++) {
                ask("send", p, q, 7);
            }
        }
        for (int p = 0; p < 4; p++) {
            for (int k = 0; k < 4; k++) {
                ask("undo", p);
            }
            ask("length", p);
        }
    }
}
