import java.io.IOException;
import java.util.ArrayList;
import java.util.Arrays;
import java.util.List;
import java.util.Set;

/**
 * What the document says of all calls, asked at each call of each run of src/test/runs: what is
 * refused and what only answers leaves the whole state as it is, a change is undone as a whole, and
 * restore brings back as a whole what was saved before it. No object is asked more often than is
 * promised: a view of the state comes from several objects that have had the same calls.
 */
public final class StateTest {
    private static final Face CLASS = new Face(RobotAisles.class);
    private static final Set<String> CHANGES = Set.of("layout", "add", "takeOff", "order", "assign", "release",
        "close", "open", "set", "plan", "cancel", "pass");
    private static final int CALLS = 512;
    private static final int ROOM = 150;
    private static final int UNDO_LIMIT = 8;

    private int right;
    private int wrong;

    public static void main(String[] args) throws IOException {
        StateTest test = new StateTest();
        for (Runs.Run run : Runs.all()) {
            test.play(run);
        }
        System.out.println("StateTest: " + test.right + " passed, " + test.wrong + " failed");
        System.exit(test.wrong == 0 ? 0 : 1);
    }

    private void play(Runs.Run run) {
        View before = new View(run.rows.subList(0, 0));
        for (int i = 0; i < run.rows.size() && i < CALLS - ROOM; i++) {
            Runs.Row row = run.rows.get(i);
            View after = new View(run.rows.subList(0, i + 1));
            if (row.isRefusal() || !CHANGES.contains(row.name)) {
                unchanged(row, before, after);
            } else {
                undone(row, before, new View(run.rows.subList(0, i + 1), "undo"), after);
                List<Runs.Row> saved = new ArrayList<>(run.rows.subList(0, i));
                saved.add(new Runs.Row("", "save", new Object[0], null));
                saved.add(row);
                restored(row, before, new View(saved, "restore"), after);
            }
            before = after;
        }
    }

    private void unchanged(Runs.Row row, View before, View after) {
        boolean isBack = row.name.equals("undo") || row.name.equals("restore");
        if (row.isRefusal() || !isBack) {
            same(row, "the warehouse is another one", before.house, after.house);
            same(row, "what can be undone", before.changes, after.changes);
        }
        if (!row.name.equals("layout")) {
            same(row, "the fault position", before.fault, after.fault);
        }
        if (!row.name.equals("layout") && (row.isRefusal() || !row.name.equals("append"))) {
            same(row, "the buffer", before.buffer, after.buffer);
        }
        if (row.want == null || !row.want.equals("throws UnsupportedOperationException")) {
            same(row, "the reason", before.reason, after.reason);
        }
    }

    private void undone(Runs.Row row, View before, View back, View after) {
        same(row, "undone, the warehouse is another one", before.house, back.house);
        same(row, "undone, what can be undone", Math.min(UNDO_LIMIT, before.changes + 1) - 1, back.changes);
        kept(row, back, after);
    }

    private void restored(Runs.Row row, View before, View back, View after) {
        same(row, "restored, the warehouse is another one", before.house, back.house);
        same(row, "restored, what can be undone", 0, back.changes);
        kept(row, back, after);
    }

    private void kept(Runs.Row row, View back, View after) {
        same(row, "the fault position", after.fault, back.fault);
        same(row, "the buffer", after.buffer, back.buffer);
        same(row, "the reason", after.reason, back.reason);
    }

    private void same(Runs.Row row, String what, Object due, Object is) {
        if (due.equals(is)) {
            right++;
        } else {
            wrong++;
            System.out.println(row.place + ": " + row.name + Arrays.toString(row.arguments) + ": " + what + ": "
                + is + ", due is " + due);
        }
    }

    /** All that can be asked of an object that has had some calls. */
    private static final class View {
        final String house;
        final int changes;
        final int fault;
        final int buffer;
        final String reason;

        private final List<Runs.Row> rows;
        private final String last;
        private RobotAisles object;
        private int calls;

        View(List<Runs.Row> rows) {
            this(rows, "");
        }

        View(List<Runs.Row> rows, String last) {
            this.rows = rows;
            this.last = last;
            calls = CALLS;
            StringBuilder all = new StringBuilder();
            for (int what = 0; what <= 16; what++) {
                if (what != 12 && what != 13) {
                    all.append(ask().account(what)).append(' ');
                }
            }
            cells(all, ask().account(0) * ask().account(1));
            robots(all, ask().account(2));
            orders(all, ask().account(3));
            house = all.toString();
            changes = ask().account(12);
            fault = ask().faultPosition();
            buffer = ask().account(13);
            reason = CLASS.call(ask(), "reason", false) + " " + CLASS.call(ask(), "reason", true);
        }

        /** An object that has had the calls, for one call more. */
        private RobotAisles ask() {
            if (calls >= CALLS) {
                object = new RobotAisles();
                calls = 0;
                for (Runs.Row row : rows) {
                    CLASS.call(object, row.name, row.arguments);
                    calls++;
                }
                if (!last.isEmpty()) {
                    CLASS.call(object, last);
                    calls++;
                }
            }
            calls++;
            return object;
        }

        private void cells(StringBuilder all, int count) {
            for (int cell = 0; cell < count; cell++) {
                all.append(ask().letter(cell)).append(ask().cell(cell, 0)).append(ask().cell(cell, 1));
            }
        }

        private void robots(StringBuilder all, int count) {
            for (int robot = 0; robot < count; robot++) {
                all.append(" robot");
                for (int what = 0; what <= 6; what++) {
                    all.append(' ').append(ask().robotOf(robot, what));
                }
                int ticks = ask().robotOf(robot, 3);
                for (int ahead = 0; ahead <= ticks + 1; ahead++) {
                    all.append('>').append(ask().planned(robot, ahead));
                }
            }
        }

        private void orders(StringBuilder all, int count) {
            for (int order = 0; order < count; order++) {
                all.append(" order");
                for (int what = 0; what <= 5; what++) {
                    all.append(' ').append(ask().orderOf(order, what));
                }
                int lines = ask().orderOf(order, 1);
                for (int line = 0; line < lines; line++) {
                    all.append(':').append(ask().line(order, line));
                }
            }
        }
    }
}
