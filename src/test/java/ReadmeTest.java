import java.io.IOException;
import java.nio.file.Files;
import java.nio.file.Path;
import java.util.regex.Matcher;
import java.util.regex.Pattern;

/** The calls that README.md shows answer what it says behind them: a number or an exception ahead of all else. */
public final class ReadmeTest extends Bench {
    private static final String BEGIN = "WeaveText x = new WeaveText();";
    private static final Pattern CALL = Pattern.compile("x\\.(\\w+)\\(([^)]*)\\);\\s*//\\s*(.*)");
    private static final Pattern DUE = Pattern.compile("(-?\\d+|\\w+Exception)(:.*)?");

    private ReadmeTest(int run) {
        super(new Real(), "run " + run + " of README.md");
    }

    public static void main(String[] args) throws IOException {
        int runs = 0;
        int calls = 0;
        ReadmeTest run = null;
        for (String line : Files.readAllLines(Path.of("README.md"))) {
            Matcher call = CALL.matcher(line);
            if (line.equals(BEGIN)) {
                runs++;
                run = new ReadmeTest(runs);
            } else if (run != null && call.matches()) {
                calls++;
                run.look(call.group(1), call.group(2), call.group(3));
            }
        }
        new ReadmeTest(0).check(runs >= 3 && calls >= 40, "there are " + runs + " runs with " + calls + " calls");
        finish("the calls in README.md");
    }

    private void look(String call, String args, String remark) {
        Matcher due = DUE.matcher(remark);
        boolean answers = due.matches();
        boolean silent = call.equals("feed") || call.equals("anchor");
        check(answers != silent, call + "(" + args + ") is not told as it should be: " + remark);
        String want = !answers ? "" : due.group(1).endsWith("Exception") ? "throws." + due.group(1) : due.group(1);
        due(want, call, numbers(args));
    }

    private static int[] numbers(String args) {
        String[] parts = args.isBlank() ? new String[0] : args.split(",\\s*");
        int[] row = new int[parts.length];
        for (int k = 0; k < row.length; k++) {
            row[k] = Integer.decode(parts[k]);
        }
        return row;
    }
}
