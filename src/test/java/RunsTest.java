import java.io.IOException;
import java.util.Arrays;
import java.util.TreeSet;

/**
 * Plays the runs of src/test/runs, which Runs reads. Model answers each call too, so that a row that
 * is wrong itself is found.
 */
public final class RunsTest {
    private static final Face CLASS = new Face(RobotAisles.class);
    private static final Face MODEL = new Face(Model.class);
    private static final int PROMISES = 38;
    private static final int CALLS = 512;

    private int wrong;
    private int right;

    public static void main(String[] args) throws IOException {
        RunsTest test = new RunsTest();
        TreeSet<Integer> promises = new TreeSet<>();
        for (Runs.Run run : Runs.all()) {
            promises.addAll(run.promises);
            test.play(run);
        }
        for (int promise = 1; promise <= PROMISES; promise++) {
            if (!promises.contains(promise)) {
                test.fault("no run is there for promise " + promise);
            }
        }
        System.out.println("RunsTest: " + test.right + " passed, " + test.wrong + " failed");
        System.exit(test.wrong == 0 ? 0 : 1);
    }

    private void play(Runs.Run run) {
        RobotAisles due = new RobotAisles();
        Model model = new Model();
        if (run.rows.size() > CALLS) {
            fault(run.head + ": more calls than are promised");
        }
        for (Runs.Row row : run.rows) {
            String got = CLASS.call(due, row.name, row.arguments);
            String second = MODEL.call(model, row.name, row.arguments);
            String want = row.want == null ? second : row.want;
            if (!got.equals(want)) {
                fault(told(row) + " answered " + got + ", due is " + want);
            } else if (!second.equals(want)) {
                fault(told(row) + ": the model answers " + second + ", the row says " + want);
            } else {
                right++;
            }
        }
    }

    private static String told(Runs.Row row) {
        return row.place + ": " + row.name + Arrays.toString(row.arguments);
    }

    private void fault(String what) {
        wrong++;
        System.out.println(what);
    }
}
