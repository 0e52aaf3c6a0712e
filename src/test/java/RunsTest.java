import java.io.IOException;
import java.nio.charset.StandardCharsets;
import java.nio.file.DirectoryStream;
import java.nio.file.Files;
import java.nio.file.Path;
import java.util.ArrayList;
import java.util.List;
import java.util.TreeSet;

/**
 * Runs of calls written by hand, in the files of src/test/runs, each on a new object. The rows:
 *
 * <pre>
 * == promise 5, 34: what it is about       a new run, of these promises
 * add(0, 5) = 0                            a call and its answer
 * add(0, 5) throws UnsupportedOperationException
 * text ..+/.#@                             appends it all and calls layout, which takes it
 * type ..                                  appends it all
 * why 5 0                                  the reason and its detail
 * </pre>
 *
 * Model answers each call too, so that a row that is wrong itself is found.
 */
public final class RunsTest {
    private static final Face CLASS = new Face(RobotAisles.class);
    private static final Face MODEL = new Face(Model.class);
    private static final int PROMISES = 38;

    private final TreeSet<Integer> promises = new TreeSet<>();
    private RobotAisles due;
    private Model model;
    private String place;
    private int wrong;
    private int rows;

    public static void main(String[] args) throws IOException {
        RunsTest test = new RunsTest();
        List<Path> files = new ArrayList<>();
        try (DirectoryStream<Path> found = Files.newDirectoryStream(Path.of("src/test/runs"), "*.txt")) {
            found.forEach(files::add);
        }
        files.sort(null);
        for (Path file : files) {
            test.file(file);
        }
        for (int promise = 1; promise <= PROMISES; promise++) {
            if (!test.promises.contains(promise)) {
                test.fault("no run is there for promise " + promise);
            }
        }
        System.out.println("RunsTest: " + (test.rows - test.wrong) + " passed, " + test.wrong + " failed");
        System.exit(test.wrong == 0 ? 0 : 1);
    }

    private void file(Path file) throws IOException {
        String run = "no run";
        int number = 0;
        due = null;
        for (String line : Files.readAllLines(file, StandardCharsets.UTF_8)) {
            number++;
            String row = line.trim();
            if (row.isEmpty() || row.startsWith("//")) {
                continue;
            }
            if (row.startsWith("== ")) {
                run = row.substring(3);
                begin(run);
            } else {
                place = file.getFileName() + ":" + number + " (" + run + ")";
                rows++;
                row(row);
            }
        }
    }

    private void begin(String run) {
        due = new RobotAisles();
        model = new Model();
        String numbers = run.substring(run.indexOf("promise") + 7, run.indexOf(':'));
        for (String number : numbers.split(",")) {
            promises.add(Integer.parseInt(number.trim()));
        }
    }

    private void row(String row) {
        if (row.startsWith("text ")) {
            type(row.substring(5));
            int cells = row.substring(5).replace("/", "").length();
            answer("layout()", String.valueOf(cells));
        } else if (row.startsWith("type ")) {
            type(row.substring(5));
        } else if (row.startsWith("why ")) {
            String[] words = row.split(" ");
            answer("reason(false)", words[1]);
            answer("reason(true)", words[2]);
        } else if (row.contains(") throws ")) {
            answer(row.substring(0, row.indexOf(") throws ") + 1), row.substring(row.indexOf("throws ")));
        } else if (row.contains(") = ")) {
            answer(row.substring(0, row.indexOf(") = ") + 1), row.substring(row.indexOf(") = ") + 4));
        } else {
            fault("a row that is not understood: " + row);
        }
    }

    private void type(String text) {
        for (char character : text.toCharArray()) {
            String length = CLASS.call(due, "append", character);
            MODEL.call(model, "append", character);
            if (!length.equals(CLASS.call(due, "account", 13))) {
                fault("append answered " + length);
            }
        }
    }

    private void answer(String call, String want) {
        String name = call.substring(0, call.indexOf('('));
        Object[] arguments = arguments(name, call.substring(call.indexOf('(') + 1, call.length() - 1).trim());
        String got = CLASS.call(due, name, arguments);
        String second = MODEL.call(model, name, arguments);
        if (!got.equals(want)) {
            fault(call + " answered " + got + ", due is " + want);
        } else if (!second.equals(want)) {
            fault(call + ": the model answers " + second + ", the row says " + want);
        }
    }

    private static Object[] arguments(String name, String list) {
        String[] words = list.isEmpty() ? new String[0] : list.split(",");
        Object[] arguments = new Object[words.length];
        for (int i = 0; i < words.length; i++) {
            String word = words[i].trim();
            if (name.equals("append")) {
                arguments[i] = word.startsWith("'") ? word.charAt(1) : (char) Integer.parseInt(word);
            } else if (name.equals("reason")) {
                arguments[i] = Boolean.parseBoolean(word);
            } else {
                arguments[i] = Integer.parseInt(word);
            }
        }
        return arguments;
    }

    private void fault(String what) {
        wrong++;
        System.out.println(place + ": " + what);
    }
}
