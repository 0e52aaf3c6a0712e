import java.io.IOException;
import java.nio.charset.StandardCharsets;
import java.nio.file.DirectoryStream;
import java.nio.file.Files;
import java.nio.file.Path;
import java.util.ArrayList;
import java.util.Collections;
import java.util.List;
import java.util.TreeSet;

/**
 * Runs of calls written by hand, in the files of src/test/runs, each on a new object. The rows:
 *
 * <pre>
 * == promise 5, 34: what it is about       a new run, of these promises
 * "Returns its number."                    words of the document that the run tests
 * add(0, 5) = 0                            a call and its answer
 * add(0, 5) throws UnsupportedOperationException
 * no 5 0 add(0, 5)                         the same, and the reason and its detail
 * text ..+/.#@                             appends it all and calls layout, which takes it
 * type ..                                  appends it all
 * fault 2 ...                              appends it all and calls layout, with that fault
 * why 5 0                                  the reason and its detail
 * 20 times pass(1) = 0                     the same call again and again
 * </pre>
 */
final class Runs {
    /** One call; want is null where append's answer is due: it is one more than before. */
    static final class Row {
        final String place;
        final String name;
        final Object[] arguments;
        final String want;

        Row(String place, String name, Object[] arguments, String want) {
            this.place = place;
            this.name = name;
            this.arguments = arguments;
            this.want = want;
        }

        boolean isRefusal() {
            return want != null && want.startsWith("throws ");
        }
    }

    /** A run, with what its head and its rows say. */
    static final class Run {
        final String head;
        final TreeSet<Integer> promises = new TreeSet<>();
        final List<String> quotes = new ArrayList<>();
        final List<Row> rows = new ArrayList<>();

        Run(String head) {
            this.head = head;
        }
    }

    static List<Run> all() throws IOException {
        List<Path> files = new ArrayList<>();
        try (DirectoryStream<Path> found = Files.newDirectoryStream(Path.of("src/test/runs"), "*.txt")) {
            found.forEach(files::add);
        }
        Collections.sort(files);
        List<Run> runs = new ArrayList<>();
        for (Path file : files) {
            new Runs(file).read(runs);
        }
        return runs;
    }

    private final Path file;
    private String place;
    private Run run;

    private Runs(Path file) {
        this.file = file;
    }

    private void read(List<Run> runs) throws IOException {
        int number = 0;
        for (String line : Files.readAllLines(file, StandardCharsets.UTF_8)) {
            number++;
            String row = line.trim();
            place = file.getFileName() + ":" + number;
            if (row.isEmpty() || row.startsWith("//")) {
                continue;
            }
            if (row.startsWith("== promise ")) {
                run = new Run(row.substring(3));
                runs.add(run);
                String numbers = row.substring("== promise ".length(), row.indexOf(':'));
                for (String promise : numbers.split(",")) {
                    run.promises.add(Integer.parseInt(promise.trim()));
                }
            } else if (row.startsWith("\"") && row.endsWith("\"") && row.length() > 2) {
                run.quotes.add(row.substring(1, row.length() - 1));
            } else {
                take(row);
            }
        }
    }

    private void take(String row) {
        String[] words = row.split(" ");
        if (row.startsWith("text ")) {
            append(words[1]);
            call("layout()", String.valueOf(words[1].replace("/", "").length()));
        } else if (row.startsWith("type ")) {
            append(words[1]);
        } else if (row.startsWith("fault ")) {
            append(words.length > 2 ? words[2] : "");
            call("layout()", "throws IllegalArgumentException");
            call("faultPosition()", words[1]);
        } else if (row.startsWith("why ")) {
            call("reason(false)", words[1]);
            call("reason(true)", words[2]);
        } else if (row.startsWith("no ")) {
            call(row.split(" ", 4)[3], "throws UnsupportedOperationException");
            call("reason(false)", words[1]);
            call("reason(true)", words[2]);
        } else if (words.length > 2 && words[1].equals("times")) {
            for (int i = Integer.parseInt(words[0]); i > 0; i--) {
                take(row.substring(row.indexOf(" times ") + " times ".length()));
            }
        } else if (row.contains(") throws ")) {
            call(row.substring(0, row.indexOf(") throws ") + 1), row.substring(row.indexOf("throws ")));
        } else if (row.contains(") = ")) {
            call(row.substring(0, row.indexOf(") = ") + 1), row.substring(row.indexOf(") = ") + 4));
        } else {
            throw new IllegalStateException(place + ": a row that is not understood: " + row);
        }
    }

    private void append(String text) {
        for (char character : text.toCharArray()) {
            run.rows.add(new Row(where(), "append", new Object[] {character}, null));
        }
    }

    private void call(String call, String want) {
        String name = call.substring(0, call.indexOf('('));
        String list = call.substring(call.indexOf('(') + 1, call.length() - 1).trim();
        run.rows.add(new Row(where(), name, arguments(name, list), want));
    }

    private String where() {
        return place + " (" + run.head + ")";
    }

    private static Object[] arguments(String name, String list) {
        String[] words = list.isEmpty() ? new String[0] : list.split(",");
        Object[] arguments = new Object[words.length];
        for (int i = 0; i < words.length; i++) {
            String word = words[i].trim();
            if (name.equals("append")) {
                arguments[i] = word.startsWith("'") ? word.charAt(1) : (char) Integer.parseInt(word);
            } else if (name.equals("reason")) {
                arguments[i] = Boolean.parseBoolean(word);
            } else {
                arguments[i] = Integer.parseInt(word);
            }
        }
        return arguments;
    }
}
