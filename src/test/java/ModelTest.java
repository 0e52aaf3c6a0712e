import java.util.ArrayList;
import java.util.Arrays;
import java.util.List;
import java.util.Random;

/** Long runs of calls, made by a fixed seed, on RobotAisles and on Model; all answers must be alike. */
public final class ModelTest {
    private static final int CALLS = 512;
    private static final Face CLASS = new Face(RobotAisles.class);
    private static final Face MODEL = new Face(Model.class);

    private final Random random;
    private final RobotAisles due = new RobotAisles();
    private final Model model = new Model();
    private final List<String> told = new ArrayList<>();
    private final boolean isBusy;
    private int calls;

    private ModelTest(long seed) {
        random = new Random(seed);
        isBusy = seed % 2 == 1;
    }

    public static void main(String[] args) {
        int runs = args.length > 0 ? Integer.parseInt(args[0]) : 3000;
        int wrong = 0;
        for (int seed = 0; seed < runs && wrong < 3; seed++) {
            String fault = new ModelTest(seed).run();
            if (fault != null) {
                wrong++;
                System.out.println("seed " + seed + ":\n" + fault);
            }
        }
        System.out.println("ModelTest: " + (runs - wrong) + " passed, " + wrong + " failed");
        System.exit(wrong == 0 ? 0 : 1);
    }

    /** Null, or the calls that lead to an answer that differs. */
    private String run() {
        boolean isLayoutFirst = random.nextInt(10) > 0;
        if (isLayoutFirst && !text(goodText())) {
            return String.join("\n", told);
        }
        for (int i = 0; isBusy && i < 8; i++) {
            if (!same("add", cell(), 20 + random.nextInt(80)) || !same("order", random.nextInt(60), floor(), lineOrNone(), -1)) {
                return String.join("\n", told);
            }
        }
        while (calls < CALLS) {
            if (!step()) {
                return String.join("\n", told);
            }
        }
        return null;
    }

    private boolean same(String name, Object... arguments) {
        calls++;
        if (calls > CALLS) {
            return true;
        }
        String mine = CLASS.call(due, name, arguments);
        String want = MODEL.call(model, name, arguments);
        told.add(name + Arrays.toString(arguments) + " answered " + mine + ", due is " + want);
        return mine.equals(want);
    }

    private boolean text(String text) {
        for (char c : text.toCharArray()) {
            if (!same("append", c)) {
                return false;
            }
        }
        return same("layout") && same("faultPosition");
    }

    private static final String[] MAZES = {
        "......../.######./......../.######./......../.#####+@", "..#...@./.#..#.#./...#..#./.##.##../....#..@/+.#...#.",
        "........@", "...+/.##./...@", "..../#.##/@...", ".......", "....../.####./......", "...#..../.#.#.##./.#...#+@",
        "......./.#.#.#./......./.#.#.#./......./.+.@.+."
    };

    private String goodText() {
        if (random.nextInt(4) == 0) {
            String maze = MAZES[random.nextInt(MAZES.length)];
            return maze.length() > 8 && maze.indexOf('/') < 0 ? maze.substring(1) : maze;
        }
        int rows = 1 + random.nextInt(6);
        int columns = 2 + random.nextInt(7);
        if (random.nextInt(3) == 0) {
            rows = 1 + random.nextInt(3);
            columns = 2 + random.nextInt(3);
        }
        String signs = new String[] {"....+@", ".....#+@", ".", "..........#@", "...##+@", ".+@", "........@", "............@+"}[random.nextInt(8)];
        StringBuilder text = new StringBuilder();
        for (int r = 0; r < rows; r++) {
            text.append(r > 0 ? "/" : "");
            for (int c = 0; c < columns; c++) {
                text.append(signs.charAt(random.nextInt(signs.length())));
            }
        }
        return text.toString();
    }

    private String badText() {
        StringBuilder text = new StringBuilder(goodText());
        int changes = 1 + random.nextInt(2);
        for (int i = 0; i < changes && text.length() > 0; i++) {
            int at = random.nextInt(text.length());
            switch (random.nextInt(4)) {
                case 0:
                    text.deleteCharAt(at);
                    break;
                case 1:
                    text.insert(at, "/.#+@x\u0000\u0394".charAt(random.nextInt(8)));
                    break;
                case 2:
                    text.setLength(at);
                    break;
                default:
                    text.append("/..".charAt(random.nextInt(3)));
            }
        }
        text.setLength(Math.min(60, text.length()));
        return text.toString();
    }

    private int wild() {
        int[] values = {-1, -2, 0, 7, 48, 99, 100, 1000, Integer.MAX_VALUE, Integer.MIN_VALUE};
        return values[random.nextInt(values.length)];
    }

    private int oneOf(int count) {
        return random.nextInt(40) == 0 ? wild() : random.nextInt(Math.max(1, count + (random.nextInt(12) == 0 ? 1 : 0)));
    }

    private int cell() {
        return oneOf(model.account(0) * model.account(1));
    }

    private int closedCell() {
        for (int cell = 0; random.nextInt(5) > 0 && cell < model.account(0) * model.account(1); cell++) {
            if (model.letter(cell) == 'x') {
                return cell;
            }
        }
        return cell();
    }

    private int floor() {
        int cell = cell();
        for (int tries = 0; tries < 5 && cell >= 0 && cell < model.account(0) * model.account(1); tries++) {
            if (model.cell(cell, 0) == 0) {
                return cell;
            }
            cell = cell();
        }
        return cell;
    }

    private int robot() {
        return oneOf(model.account(2));
    }

    private int order() {
        return oneOf(model.account(3));
    }

    private int lineOrNone() {
        return random.nextInt(3) == 0 ? -1 : random.nextInt(8) == 0 ? cell() : floor();
    }

    /** The cell in which a plan would help the order of the robot, if there is one. */
    private int usefulGoal(int robot) {
        if (robot < 0 || robot >= model.account(2) || model.robotOf(robot, 2) < 0) {
            return cell();
        }
        int order = model.robotOf(robot, 2);
        int picked = model.orderOf(order, 2);
        if (picked < model.orderOf(order, 1)) {
            return model.line(order, picked);
        }
        for (int tries = 0; tries < 60; tries++) {
            int cell = random.nextInt(model.account(0) * model.account(1));
            if (model.cell(cell, 0) == 3) {
                return cell;
            }
        }
        return cell();
    }

    /** Robots get orders and go on with them, as a warehouse that works does. */
    private boolean work() {
        for (int robot = 0; robot < model.account(2); robot++) {
            if (random.nextInt(4) == 0) {
                continue;
            }
            if (model.robotOf(robot, 2) < 0 && model.account(4) > 0) {
                if (!same("assign", robot, model.waiting(random.nextInt(model.account(4))))) {
                    return false;
                }
            }
            int goal = usefulGoal(robot);
            if (model.robotOf(robot, 3) == 0 && (!same("arrivalAgain", robot, goal) || !same("plan", robot, goal))) {
                return false;
            }
        }
        return same("pass", 1 + random.nextInt(random.nextInt(3) == 0 ? 9 : 2));
    }

    /** A plan is cancelled, and its cell asked for, when another robot has come to reserve it. */
    private boolean crowd() {
        for (int robot = 0; robot < model.account(2); robot++) {
            if (!same("plan", robot, cell()) || !same("reserved", cell(), random.nextInt(9))) {
                return false;
            }
        }
        int robot = robot();
        return same("arrival", robot, cell()) && same("arrivalAgain", robot(), cell()) && same("cancel", robot())
            && same("close", cell()) && same("reason", true);
    }

    private boolean step() {
        int kind = random.nextInt(100);
        if (isBusy && random.nextInt(6) == 0) {
            return random.nextInt(3) > 0 ? work() : crowd();
        }
        if (kind < 8) {
            return same("add", cell(), random.nextInt(15) == 0 ? wild() : random.nextInt(100));
        }
        if (kind < 12) {
            return same("order", random.nextInt(20) == 0 ? wild() : random.nextInt(12) * 9, floor(), lineOrNone(), lineOrNone());
        }
        if (kind < 17) {
            return same("assign", robot(), order());
        }
        if (kind < 33) {
            int robot = robot();
            return same("plan", robot, random.nextInt(2) == 0 ? cell() : usefulGoal(robot));
        }
        if (kind < 43) {
            return same("pass", random.nextInt(20) == 0 ? wild() : 1 + random.nextInt(random.nextInt(3) == 0 ? 20 : 4));
        }
        return kind < 56 ? rareChange() : kind < 62 ? manyQueries() : query();
    }

    private boolean rareChange() {
        switch (random.nextInt(18)) {
            case 0:
                return same("takeOff", robot());
            case 1:
                return same("release", robot());
            case 2:
            case 3:
            case 4:
                return same("close", cell());
            case 5:
            case 6:
                return same("open", closedCell());
            case 7:
            case 8:
                return same("set", oneOf(3), random.nextInt(9) == 0 ? wild() : 1 + random.nextInt(random.nextInt(2) == 0 ? 3 : 31));
            case 9:
            case 10:
                return same("cancel", robot());
            case 11:
            case 12:
            case 13:
                return same("undo");
            case 14:
                return same("save");
            case 15:
                return random.nextInt(3) > 0 || same("restore");
            case 16:
                return random.nextInt(8) > 0 || text(goodText());
            default:
                return random.nextInt(3) > 0 || text(badText());
        }
    }

    /** All that tells the state of robots and cells at once. */
    private boolean manyQueries() {
        for (int what = 0; what <= 16; what++) {
            if (!same("account", what)) {
                return false;
            }
        }
        int robot = robot();
        for (int what = -1; what <= 7; what++) {
            if (!same("robotOf", robot, what)) {
                return false;
            }
        }
        for (int ahead = 0; ahead < 12; ahead++) {
            if (!same("planned", robot, ahead)) {
                return false;
            }
        }
        int order = order();
        for (int what = -1; what <= 6; what++) {
            if (!same("orderOf", order, what)) {
                return false;
            }
        }
        return true;
    }

    private boolean query() {
        switch (random.nextInt(20)) {
            case 0:
                return same("cell", cell(), random.nextInt(6) - 1);
            case 1:
                return same("letter", cell());
            case 2:
                return same("distance", cell(), cell());
            case 3:
                return same("distanceAgain", cell(), cell());
            case 4:
                return same("reach", cell());
            case 5:
                return same("farthest", cell());
            case 6:
            case 7:
                return same("robotOf", robot(), oneOf(7));
            case 8:
                return same("planned", robot(), oneOf(31));
            case 9:
                return same("reserved", cell(), oneOf(31));
            case 10:
            case 11:
                return same("arrival", robot(), cell());
            case 12:
                return same("arrivalAgain", robot(), cell());
            case 13:
                return same("orderOf", order(), oneOf(6));
            case 14:
                return same("line", order(), oneOf(3));
            case 15:
                return same("waiting", random.nextInt(6) - 1);
            case 16:
                return same("suited", order());
            case 17:
                return same("tour", order());
            case 18:
                return same("loaded") && same("lateness");
            default:
                return same("reason", false) && same("reason", true) && same("account", oneOf(17)) && same("faultPosition");
        }
    }
}
