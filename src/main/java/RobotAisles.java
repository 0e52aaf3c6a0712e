import java.util.Arrays;
import java.util.NoSuchElementException;

/**
 * A warehouse with robots that plan their ways through cells reserved tick by tick.
 *
 * <p>Every row that a call needs is made in a constructor and used again, so that a long run of
 * calls makes nothing new.
 */
public final class RobotAisles {
    private static final int NONE = -1;

    private static final int TEXT_LIMIT = 60;
    private static final int ROW_LIMIT = 6;
    private static final int COLUMN_LEAST = 2;
    private static final int COLUMN_LIMIT = 8;
    private static final int CELL_LIMIT = 48;
    private static final int ROBOT_LIMIT = 6;
    private static final int ORDER_LIMIT = 10;
    private static final int LINE_LIMIT = 3;
    private static final int TICK_LIMIT = 30;
    private static final int NODE_LIMIT = (TICK_LIMIT + 1) * CELL_LIMIT;
    private static final int BATTERY_LIMIT = 99;
    private static final int DUE_LIMIT = 999;
    private static final int PASS_LIMIT = 99;
    private static final int UNDO_LIMIT = 8;

    private static final int FLOOR = 0;
    private static final int SHELF = 1;
    private static final int CHARGER = 2;
    private static final int STATION = 3;
    private static final char[] SIGNS = {'.', '#', '+', '@'};
    private static final char ROW_END = '/';

    private static final int NEIGHBORS = 4;
    private static final int STAYING = 4;

    private static final int WAITING = 0;
    private static final int UNDER_WAY = 1;
    private static final int DELIVERED = 2;

    private static final int RATE = 0;
    private static final int WEIGHT = 1;
    private static final int HORIZON = 2;
    private static final int SETTINGS = 3;
    private static final int[] SETTING_LEAST = {1, 1, 1};
    private static final int[] SETTING_MOST = {20, 3, 30};
    private static final int[] SETTING_FIRST = {5, 2, 30};

    private static final int NO_SUCH = 1;
    private static final int OUT_OF_RANGE = 2;
    private static final int TOO_MANY = 3;
    private static final int NOT_ENTERED = 4;
    private static final int A_ROBOTS_CELL = 5;
    private static final int HAS_PLAN = 6;
    private static final int ORDER_OR_NONE = 7;
    private static final int NOT_WAITING = 8;
    private static final int IN_GOAL = 9;
    private static final int NO_PLAN_FOUND = 10;
    private static final int BATTERY_LOW = 11;
    private static final int LINE_NO_FLOOR = 12;
    private static final int CLOSED_OR_NOT = 13;
    private static final int HAS_NO_PLAN = 14;

    private final Warehouse house;
    private final Warehouse snapshot;
    private final History history;
    private final LayoutText text;
    private final Distances distances;
    private final Planner planner;
    private boolean hasSnapshot;
    private int fault;
    private int keptReason;
    private int keptDetail;

    public RobotAisles() {
        house = new Warehouse();
        snapshot = new Warehouse();
        history = new History();
        text = new LayoutText();
        distances = new Distances(house);
        planner = new Planner(house);
        hasSnapshot = false;
        fault = NONE;
        keptReason = NONE;
        keptDetail = 0;
    }

    public int append(char character) throws IllegalStateException {
        if (text.isFull()) {
            throw new IllegalStateException();
        }
        text.take(character);
        return text.length;
    }

    public int layout() throws IllegalArgumentException {
        fault = text.findFault();
        if (fault != NONE) {
            text.length = 0;
            throw new IllegalArgumentException();
        }
        history.keep(house);
        house.rebuild(text);
        text.length = 0;
        return house.cellCount();
    }

    public int faultPosition() {
        return fault;
    }

    public int add(int cell, int battery) throws UnsupportedOperationException {
        if (refusesAdd(cell, battery)) {
            throw new UnsupportedOperationException();
        }
        history.keep(house);
        return house.putRobot(cell, battery);
    }

    private boolean refusesAdd(int cell, int battery) {
        if (!house.isCell(cell)) {
            return refuse(NO_SUCH, 0);
        }
        if (battery < 0 || battery > BATTERY_LIMIT) {
            return refuse(OUT_OF_RANGE, 0);
        }
        if (house.robotCount >= ROBOT_LIMIT) {
            return refuse(TOO_MANY, 0);
        }
        if (!house.canEnter(cell)) {
            return refuse(NOT_ENTERED, cell);
        }
        return refusesRobotsCell(cell, NONE);
    }

    public int takeOff(int robot) throws UnsupportedOperationException {
        if (refusesTakeOff(robot)) {
            throw new UnsupportedOperationException();
        }
        history.keep(house);
        house.dropRobot(robot);
        return house.robotCount;
    }

    private boolean refusesTakeOff(int robot) {
        if (!house.isRobot(robot)) {
            return refuse(NO_SUCH, 0);
        }
        if (house.robots[robot].order != NONE) {
            return refuse(ORDER_OR_NONE, house.robots[robot].order);
        }
        return false;
    }

    public int order(int due, int first, int second, int third) throws UnsupportedOperationException {
        if (refusesOrder(due, first, second, third)) {
            throw new UnsupportedOperationException();
        }
        history.keep(house);
        return house.putOrder(due, first, second, third);
    }

    private boolean refusesOrder(int due, int first, int second, int third) {
        if (!house.isCell(first) || !house.isCellOrNone(second) || !house.isCellOrNone(third)) {
            return refuse(NO_SUCH, 0);
        }
        if (due < 0 || due > DUE_LIMIT || (second == NONE && third != NONE)) {
            return refuse(OUT_OF_RANGE, 0);
        }
        if (house.orderCount >= ORDER_LIMIT) {
            return refuse(TOO_MANY, 0);
        }
        return refusesLine(first) || refusesLine(second) || refusesLine(third);
    }

    private boolean refusesLine(int cell) {
        if (house.isCell(cell) && house.kinds[cell] != FLOOR) {
            return refuse(LINE_NO_FLOOR, cell);
        }
        return false;
    }

    public int assign(int robot, int order) throws UnsupportedOperationException {
        if (refusesAssign(robot, order)) {
            throw new UnsupportedOperationException();
        }
        history.keep(house);
        house.robots[robot].order = order;
        return house.orders[order].linesLeft();
    }

    private boolean refusesAssign(int robot, int order) {
        if (!house.isRobot(robot) || !house.isOrder(order)) {
            return refuse(NO_SUCH, 0);
        }
        if (house.robots[robot].order != NONE) {
            return refuse(ORDER_OR_NONE, house.robots[robot].order);
        }
        if (house.stateOf(order) != WAITING) {
            return refuse(NOT_WAITING, house.stateOf(order));
        }
        return false;
    }

    public int release(int robot) throws UnsupportedOperationException {
        if (refusesRelease(robot)) {
            throw new UnsupportedOperationException();
        }
        history.keep(house);
        return house.freeRobot(robot);
    }

    private boolean refusesRelease(int robot) {
        if (!house.isRobot(robot)) {
            return refuse(NO_SUCH, 0);
        }
        if (house.robots[robot].order == NONE) {
            return refuse(ORDER_OR_NONE, NONE);
        }
        return false;
    }

    public int close(int cell) throws UnsupportedOperationException {
        if (refusesClose(cell)) {
            throw new UnsupportedOperationException();
        }
        history.keep(house);
        house.closed[cell] = true;
        return house.closedCount();
    }

    private boolean refusesClose(int cell) {
        if (!house.isCell(cell)) {
            return refuse(NO_SUCH, 0);
        }
        if (house.closed[cell]) {
            return refuse(CLOSED_OR_NOT, 0);
        }
        if (house.kinds[cell] == SHELF) {
            return refuse(NOT_ENTERED, cell);
        }
        return refusesRobotsCell(cell, NONE);
    }

    public int open(int cell) throws UnsupportedOperationException {
        if (refusesOpen(cell)) {
            throw new UnsupportedOperationException();
        }
        history.keep(house);
        house.closed[cell] = false;
        return house.closedCount();
    }

    private boolean refusesOpen(int cell) {
        if (!house.isCell(cell)) {
            return refuse(NO_SUCH, 0);
        }
        if (!house.closed[cell]) {
            return refuse(CLOSED_OR_NOT, 0);
        }
        return false;
    }

    public int set(int what, int value) throws UnsupportedOperationException {
        if (refusesSet(what, value)) {
            throw new UnsupportedOperationException();
        }
        history.keep(house);
        int before = house.settings[what];
        house.settings[what] = value;
        return before;
    }

    private boolean refusesSet(int what, int value) {
        if (what < 0 || what >= SETTINGS) {
            return refuse(OUT_OF_RANGE, 0);
        }
        if (value < SETTING_LEAST[what] || value > SETTING_MOST[what]) {
            return refuse(OUT_OF_RANGE, 0);
        }
        return false;
    }

    public int plan(int robot, int goal) throws UnsupportedOperationException {
        if (refusesGoal(robot, goal)) {
            throw new UnsupportedOperationException();
        }
        int ticks = planner.findFirst(robot, goal);
        if (refusesFound(robot, ticks)) {
            throw new UnsupportedOperationException();
        }
        history.keep(house);
        house.robots[robot].follow(planner.path, ticks, house.stepCost(robot));
        return ticks;
    }

    private boolean refusesGoal(int robot, int goal) {
        if (!house.isRobot(robot) || !house.isCell(goal)) {
            return refuse(NO_SUCH, 0);
        }
        if (house.robots[robot].ticksLeft > 0) {
            return refuse(HAS_PLAN, house.robots[robot].ticksLeft);
        }
        if (house.robots[robot].cell == goal) {
            return refuse(IN_GOAL, 0);
        }
        if (!house.canEnter(goal)) {
            return refuse(NOT_ENTERED, goal);
        }
        return false;
    }

    private boolean refusesFound(int robot, int ticks) {
        if (ticks == NONE) {
            return refuse(NO_PLAN_FOUND, 0);
        }
        int cost = planner.stepsOfPath(ticks) * house.stepCost(robot);
        if (house.robots[robot].battery < cost) {
            return refuse(BATTERY_LOW, cost);
        }
        return false;
    }

    public int cancel(int robot) throws UnsupportedOperationException {
        if (refusesCancel(robot)) {
            throw new UnsupportedOperationException();
        }
        history.keep(house);
        int left = house.robots[robot].ticksLeft;
        house.robots[robot].ticksLeft = 0;
        return left;
    }

    private boolean refusesCancel(int robot) {
        if (!house.isRobot(robot)) {
            return refuse(NO_SUCH, 0);
        }
        if (house.robots[robot].ticksLeft == 0) {
            return refuse(HAS_NO_PLAN, 0);
        }
        return refusesRobotsCell(house.robots[robot].cell, robot);
    }

    public int pass(int ticks) throws UnsupportedOperationException {
        if (refusesPass(ticks)) {
            throw new UnsupportedOperationException();
        }
        history.keep(house);
        int delivered = 0;
        for (int i = 0; i < ticks; i++) {
            delivered += house.tick();
        }
        return delivered;
    }

    private boolean refusesPass(int ticks) {
        if (ticks < 1 || ticks > PASS_LIMIT) {
            return refuse(OUT_OF_RANGE, 0);
        }
        return false;
    }

    public int cell(int cell, int what) throws IndexOutOfBoundsException, IllegalArgumentException {
        if (!house.isCell(cell)) {
            throw new IndexOutOfBoundsException();
        }
        switch (what) {
            case 0:
                return house.kinds[cell];
            case 1:
                return house.canEnter(cell) ? 1 : 0;
            case 2:
                return house.robotThere(cell, 0);
            case 3:
                return house.enteredNeighbors(cell);
            default:
                throw new IllegalArgumentException();
        }
    }

    public char letter(int cell) throws IndexOutOfBoundsException {
        if (!house.isCell(cell)) {
            throw new IndexOutOfBoundsException();
        }
        int robot = house.robotThere(cell, 0);
        if (robot != NONE) {
            return (char) ('0' + robot);
        }
        return house.closed[cell] ? 'x' : signOf(house.kinds[cell]);
    }

    public int distance(int from, int to) throws IndexOutOfBoundsException, NoSuchElementException {
        if (!house.isCell(from) || !house.isCell(to)) {
            throw new IndexOutOfBoundsException();
        }
        int steps = distances.between(from, to);
        if (steps == NONE) {
            throw new NoSuchElementException();
        }
        return steps;
    }

    public int distanceAgain(int from, int to) throws IndexOutOfBoundsException, NoSuchElementException {
        if (!house.isCell(from) || !house.isCell(to)) {
            throw new IndexOutOfBoundsException();
        }
        int steps = distances.betweenByTable(from, to);
        if (steps == NONE) {
            throw new NoSuchElementException();
        }
        return steps;
    }

    public int reach(int cell) throws IndexOutOfBoundsException {
        if (!house.isCell(cell)) {
            throw new IndexOutOfBoundsException();
        }
        return distances.countFrom(cell);
    }

    public int farthest(int cell) throws IndexOutOfBoundsException {
        if (!house.isCell(cell)) {
            throw new IndexOutOfBoundsException();
        }
        return distances.farthestFrom(cell);
    }

    public int robotOf(int robot, int what) throws IndexOutOfBoundsException, IllegalArgumentException {
        if (!house.isRobot(robot)) {
            throw new IndexOutOfBoundsException();
        }
        Robot one = house.robots[robot];
        switch (what) {
            case 0:
                return one.cell;
            case 1:
                return one.battery;
            case 2:
                return one.order;
            case 3:
                return one.ticksLeft;
            case 4:
                return one.ticksLeft == 0 ? NONE : one.lastCell();
            case 5:
                return house.isLoaded(robot) ? 1 : 0;
            case 6:
                return one.steps;
            default:
                throw new IllegalArgumentException();
        }
    }

    public int planned(int robot, int ahead) throws IndexOutOfBoundsException, IllegalArgumentException {
        if (!house.isRobot(robot)) {
            throw new IndexOutOfBoundsException();
        }
        if (ahead < 0) {
            throw new IllegalArgumentException();
        }
        return house.robots[robot].cellAhead(ahead);
    }

    public int reserved(int cell, int ahead) throws IndexOutOfBoundsException, IllegalArgumentException {
        if (!house.isCell(cell)) {
            throw new IndexOutOfBoundsException();
        }
        if (ahead < 0) {
            throw new IllegalArgumentException();
        }
        return house.robotThere(cell, ahead);
    }

    public int arrival(int robot, int goal) throws IndexOutOfBoundsException, NoSuchElementException {
        if (!house.isRobot(robot) || !house.isCell(goal)) {
            throw new IndexOutOfBoundsException();
        }
        if (!house.canEnter(goal)) {
            throw new NoSuchElementException();
        }
        if (house.robots[robot].cell == goal) {
            return 0;
        }
        int ticks = planner.findFirst(robot, goal);
        if (ticks == NONE) {
            throw new NoSuchElementException();
        }
        return ticks;
    }

    public int arrivalAgain(int robot, int goal) throws IndexOutOfBoundsException, NoSuchElementException {
        if (!house.isRobot(robot) || !house.isCell(goal)) {
            throw new IndexOutOfBoundsException();
        }
        if (!house.canEnter(goal)) {
            throw new NoSuchElementException();
        }
        if (house.robots[robot].cell == goal) {
            return 0;
        }
        int ticks = planner.findTickByTick(robot, goal);
        if (ticks == NONE) {
            throw new NoSuchElementException();
        }
        return ticks;
    }

    public int orderOf(int order, int what) throws IndexOutOfBoundsException, IllegalArgumentException {
        if (!house.isOrder(order)) {
            throw new IndexOutOfBoundsException();
        }
        Order one = house.orders[order];
        switch (what) {
            case 0:
                return one.due;
            case 1:
                return one.lineCount;
            case 2:
                return one.picked;
            case 3:
                return house.stateOf(order);
            case 4:
                return house.robotWith(order);
            case 5:
                return one.deliveredAt;
            default:
                throw new IllegalArgumentException();
        }
    }

    public int line(int order, int index) throws IndexOutOfBoundsException {
        if (!house.isOrder(order)) {
            throw new IndexOutOfBoundsException();
        }
        if (index < 0 || index >= house.orders[order].lineCount) {
            throw new IndexOutOfBoundsException();
        }
        return house.orders[order].lines[index];
    }

    public int waiting(int index) throws NoSuchElementException {
        if (index == NONE) {
            return house.ordersIn(WAITING);
        }
        int order = house.waitingOrder(index);
        if (order == NONE) {
            throw new NoSuchElementException();
        }
        return order;
    }

    public int suited(int order) throws IndexOutOfBoundsException, NoSuchElementException {
        if (!house.isOrder(order)) {
            throw new IndexOutOfBoundsException();
        }
        int robot = distances.bestRobotFor(house.orders[order].lines[0]);
        if (robot == NONE) {
            throw new NoSuchElementException();
        }
        return robot;
    }

    public int tour(int order) throws IndexOutOfBoundsException, NoSuchElementException {
        if (!house.isOrder(order)) {
            throw new IndexOutOfBoundsException();
        }
        int steps = distances.through(house.orders[order]);
        if (steps == NONE) {
            throw new NoSuchElementException();
        }
        return steps;
    }

    public float loaded() throws ArithmeticException {
        if (house.robotCount <= 0) {
            throw new ArithmeticException();
        }
        return (float) house.loadedCount() / (float) house.robotCount;
    }

    public double lateness() throws ArithmeticException {
        int delivered = house.ordersIn(DELIVERED);
        if (delivered <= 0) {
            throw new ArithmeticException();
        }
        return (double) house.latenessSum() / (double) delivered;
    }

    public int reason(boolean isDetail) throws NoSuchElementException {
        if (keptReason == NONE) {
            throw new NoSuchElementException();
        }
        return isDetail ? keptDetail : keptReason;
    }

    public int account(int what) throws IllegalArgumentException {
        switch (what) {
            case 0:
                return house.rows;
            case 1:
                return house.columns;
            case 2:
                return house.robotCount;
            case 3:
                return house.orderCount;
            case 4:
                return house.ordersIn(WAITING);
            case 5:
                return house.ordersIn(UNDER_WAY);
            case 6:
                return house.ordersIn(DELIVERED);
            case 7:
                return house.closedCount();
            case 8:
                return house.now;
            case 9:
                return house.stepSum();
            case 10:
                return house.pickedSum();
            case 11:
                return house.batterySum();
            case 12:
                return history.count;
            case 13:
                return text.length;
            case 14:
                return house.settings[RATE];
            case 15:
                return house.settings[WEIGHT];
            case 16:
                return house.settings[HORIZON];
            default:
                throw new IllegalArgumentException();
        }
    }

    public int undo() throws IllegalStateException {
        if (history.count <= 0) {
            throw new IllegalStateException();
        }
        history.giveBack(house);
        return history.count;
    }

    public int save() {
        snapshot.copyFrom(house);
        hasSnapshot = true;
        return house.robotCount;
    }

    public int restore() throws IllegalStateException {
        if (!hasSnapshot) {
            throw new IllegalStateException();
        }
        house.copyFrom(snapshot);
        history.count = 0;
        return house.robotCount;
    }

    private boolean refusesRobotsCell(int cell, int except) {
        int robot = house.lowestRobotEverIn(cell, except);
        return robot != NONE && refuse(A_ROBOTS_CELL, robot);
    }

    /** Always true, so that a check can keep a reason and tell of it at once. */
    private boolean refuse(int reason, int detail) {
        keptReason = reason;
        keptDetail = detail;
        return true;
    }

    private static char signOf(int kind) {
        return kind >= 0 && kind < SIGNS.length ? SIGNS[kind] : SIGNS[FLOOR];
    }

    /** The text buffer, and what was learnt of it when it was looked through for a fault. */
    private static final class LayoutText {
        final char[] characters;
        int length;
        int rows;
        int columns;

        LayoutText() {
            characters = new char[TEXT_LIMIT];
        }

        boolean isFull() {
            return length >= characters.length;
        }

        void take(char character) {
            if (!isFull()) {
                characters[length] = character;
                length++;
            }
        }

        /** The fault position, or NONE; without a fault, rows and columns are those of the text. */
        int findFault() {
            rows = 0;
            columns = 0;
            int inRow = 0;
            for (int i = 0; i < length && i < characters.length; i++) {
                char character = characters[i];
                if (character == ROW_END && canEndRow(inRow) && rows + 1 < ROW_LIMIT) {
                    endRow(inRow);
                    inRow = 0;
                } else if (kindOf(character) != NONE && canGrowRow(inRow)) {
                    inRow++;
                } else {
                    return i;
                }
            }
            if (!canEndRow(inRow)) {
                return length;
            }
            endRow(inRow);
            return NONE;
        }

        /** The first row alone is free in its length: it tells the columns of all others. */
        private boolean canEndRow(int inRow) {
            return rows == 0 ? inRow >= COLUMN_LEAST : inRow == columns;
        }

        private boolean canGrowRow(int inRow) {
            return inRow < (rows == 0 ? COLUMN_LIMIT : columns);
        }

        private void endRow(int inRow) {
            columns = inRow;
            rows++;
        }

        static int kindOf(char character) {
            for (int kind = 0; kind < SIGNS.length; kind++) {
                if (SIGNS[kind] == character) {
                    return kind;
                }
            }
            return NONE;
        }
    }

    /** A robot; its path begins with the cell of the next tick. */
    private static final class Robot {
        int cell;
        int battery;
        int order;
        int steps;
        int ticksLeft;
        int stepCost;
        final int[] path;

        Robot() {
            path = new int[TICK_LIMIT];
            order = NONE;
        }

        void begin(int where, int charge) {
            cell = where;
            battery = charge;
            order = NONE;
            steps = 0;
            ticksLeft = 0;
            stepCost = 0;
        }

        void copyFrom(Robot other) {
            cell = other.cell;
            battery = other.battery;
            order = other.order;
            steps = other.steps;
            ticksLeft = other.ticksLeft;
            stepCost = other.stepCost;
            System.arraycopy(other.path, 0, path, 0, TICK_LIMIT);
        }

        void follow(int[] cells, int ticks, int cost) {
            for (int i = 0; i < ticks && i < cells.length && i < path.length; i++) {
                path[i] = cells[i];
            }
            ticksLeft = ticks;
            stepCost = cost;
        }

        int cellAhead(int ahead) {
            int index = (ahead < ticksLeft ? ahead : ticksLeft) - 1;
            return index < 0 || index >= path.length ? cell : path[index];
        }

        int lastCell() {
            return cellAhead(ticksLeft);
        }

        boolean isEverIn(int where) {
            for (int ahead = 0; ahead <= ticksLeft; ahead++) {
                if (cellAhead(ahead) == where) {
                    return true;
                }
            }
            return false;
        }

        /** The greatest tick ahead for which the cell is reserved, NONE without one, TICK_LIMIT for good. */
        int lastTickIn(int where) {
            if (lastCell() == where) {
                return TICK_LIMIT;
            }
            for (int ahead = ticksLeft; ahead >= 0; ahead--) {
                if (cellAhead(ahead) == where) {
                    return ahead;
                }
            }
            return NONE;
        }

        void goOn() {
            int next = cellAhead(1);
            if (next != cell) {
                cell = next;
                battery -= stepCost;
                steps++;
            }
            ticksLeft--;
            for (int i = 0; i < ticksLeft && i + 1 < path.length; i++) {
                path[i] = path[i + 1];
            }
        }

        void charge(int rate) {
            battery = Math.min(BATTERY_LIMIT, battery + rate);
        }
    }

    /** An order; which robot has it is known by the robot alone. */
    private static final class Order {
        int due;
        int lineCount;
        int picked;
        int deliveredAt;
        final int[] lines;

        Order() {
            lines = new int[LINE_LIMIT];
            deliveredAt = NONE;
        }

        void begin(int dueTick, int first, int second, int third) {
            due = dueTick;
            lines[0] = first;
            lines[1] = second;
            lines[2] = third;
            lineCount = second == NONE ? 1 : third == NONE ? 2 : LINE_LIMIT;
            picked = 0;
            deliveredAt = NONE;
        }

        void copyFrom(Order other) {
            due = other.due;
            lineCount = other.lineCount;
            picked = other.picked;
            deliveredAt = other.deliveredAt;
            System.arraycopy(other.lines, 0, lines, 0, LINE_LIMIT);
        }

        int linesLeft() {
            return lineCount - picked;
        }

        boolean isNextLine(int where) {
            return picked >= 0 && picked < lineCount && picked < lines.length && lines[picked] == where;
        }
    }

    /** All that can be undone. */
    private static final class Warehouse {
        int rows;
        int columns;
        int now;
        int robotCount;
        int orderCount;
        final int[] kinds;
        final boolean[] closed;
        final Robot[] robots;
        final Order[] orders;
        final int[] settings;

        Warehouse() {
            rows = 1;
            columns = COLUMN_LEAST;
            kinds = new int[CELL_LIMIT];
            closed = new boolean[CELL_LIMIT];
            robots = new Robot[ROBOT_LIMIT];
            for (int i = 0; i < robots.length; i++) {
                robots[i] = new Robot();
            }
            orders = new Order[ORDER_LIMIT];
            for (int i = 0; i < orders.length; i++) {
                orders[i] = new Order();
            }
            settings = new int[SETTINGS];
            System.arraycopy(SETTING_FIRST, 0, settings, 0, SETTINGS);
        }

        void copyFrom(Warehouse other) {
            rows = other.rows;
            columns = other.columns;
            now = other.now;
            robotCount = other.robotCount;
            orderCount = other.orderCount;
            System.arraycopy(other.kinds, 0, kinds, 0, CELL_LIMIT);
            System.arraycopy(other.closed, 0, closed, 0, CELL_LIMIT);
            System.arraycopy(other.settings, 0, settings, 0, SETTINGS);
            for (int i = 0; i < robotCount && i < ROBOT_LIMIT; i++) {
                robots[i].copyFrom(other.robots[i]);
            }
            for (int i = 0; i < orderCount && i < ORDER_LIMIT; i++) {
                orders[i].copyFrom(other.orders[i]);
            }
        }

        /** The text must have been found without a fault. */
        void rebuild(LayoutText text) {
            rows = text.rows;
            columns = text.columns;
            now = 0;
            robotCount = 0;
            orderCount = 0;
            int cell = 0;
            for (int i = 0; i < text.length && i < TEXT_LIMIT; i++) {
                int kind = LayoutText.kindOf(text.characters[i]);
                if (kind != NONE && cell < CELL_LIMIT) {
                    kinds[cell] = kind;
                    closed[cell] = false;
                    cell++;
                }
            }
        }

        int cellCount() {
            return rows * columns;
        }

        boolean isCell(int cell) {
            return cell >= 0 && cell < cellCount() && cell < CELL_LIMIT;
        }

        boolean isCellOrNone(int cell) {
            return cell == NONE || isCell(cell);
        }

        boolean isRobot(int robot) {
            return robot >= 0 && robot < robotCount && robot < ROBOT_LIMIT;
        }

        boolean isOrder(int order) {
            return order >= 0 && order < orderCount && order < ORDER_LIMIT;
        }

        boolean canEnter(int cell) {
            return isCell(cell) && kinds[cell] != SHELF && !closed[cell];
        }

        /** By the rank of directions: above, right, below, left, and the cell itself for STAYING. */
        int neighbor(int cell, int direction) {
            switch (direction) {
                case 0:
                    return cell >= columns ? cell - columns : NONE;
                case 1:
                    return columnOf(cell) + 1 < columns ? cell + 1 : NONE;
                case 2:
                    return cell + columns < cellCount() ? cell + columns : NONE;
                case 3:
                    return columnOf(cell) > 0 ? cell - 1 : NONE;
                default:
                    return cell;
            }
        }

        private int columnOf(int cell) {
            return columns > 0 ? cell % columns : 0;
        }

        int enteredNeighbors(int cell) {
            int count = 0;
            for (int direction = 0; direction < NEIGHBORS; direction++) {
                if (canEnter(neighbor(cell, direction))) {
                    count++;
                }
            }
            return count;
        }

        int closedCount() {
            int count = 0;
            for (int cell = 0; isCell(cell) && cell < CELL_LIMIT; cell++) {
                if (closed[cell]) {
                    count++;
                }
            }
            return count;
        }

        int putRobot(int cell, int battery) {
            int robot = robotCount;
            if (robot < 0 || robot >= ROBOT_LIMIT) {
                return NONE;
            }
            robots[robot].begin(cell, battery);
            robotCount++;
            return robot;
        }

        void dropRobot(int robot) {
            if (!isRobot(robot)) {
                return;
            }
            Robot gone = robots[robot];
            for (int i = robot; i + 1 < robotCount && i + 1 < ROBOT_LIMIT; i++) {
                robots[i] = robots[i + 1];
            }
            robotCount--;
            robots[robotCount] = gone;
        }

        int putOrder(int due, int first, int second, int third) {
            int order = orderCount;
            if (order < 0 || order >= ORDER_LIMIT) {
                return NONE;
            }
            orders[order].begin(due, first, second, third);
            orderCount++;
            return order;
        }

        int freeRobot(int robot) {
            int order = robots[robot].order;
            robots[robot].order = NONE;
            if (isOrder(order)) {
                orders[order].picked = 0;
            }
            return order;
        }

        int robotThere(int cell, int ahead) {
            for (int robot = 0; isRobot(robot) && robot < ROBOT_LIMIT; robot++) {
                if (robots[robot].cellAhead(ahead) == cell) {
                    return robot;
                }
            }
            return NONE;
        }

        int lowestRobotEverIn(int cell, int except) {
            for (int robot = 0; isRobot(robot) && robot < ROBOT_LIMIT; robot++) {
                if (robot != except && robots[robot].isEverIn(cell)) {
                    return robot;
                }
            }
            return NONE;
        }

        int robotWith(int order) {
            for (int robot = 0; isRobot(robot) && robot < ROBOT_LIMIT; robot++) {
                if (robots[robot].order == order) {
                    return robot;
                }
            }
            return NONE;
        }

        int stateOf(int order) {
            if (isOrder(order) && orders[order].deliveredAt != NONE) {
                return DELIVERED;
            }
            return robotWith(order) == NONE ? WAITING : UNDER_WAY;
        }

        int ordersIn(int state) {
            int count = 0;
            for (int order = 0; isOrder(order) && order < ORDER_LIMIT; order++) {
                if (stateOf(order) == state) {
                    count++;
                }
            }
            return count;
        }

        /** The order of this rank has just as many before it; NONE if there is no such rank. */
        int waitingOrder(int rank) {
            for (int order = 0; isOrder(order) && order < ORDER_LIMIT; order++) {
                if (stateOf(order) == WAITING && waitingBefore(order) == rank) {
                    return order;
                }
            }
            return NONE;
        }

        private int waitingBefore(int order) {
            int count = 0;
            for (int other = 0; isOrder(other) && other < ORDER_LIMIT; other++) {
                if (stateOf(other) == WAITING && isRankedBefore(other, order)) {
                    count++;
                }
            }
            return count;
        }

        private boolean isRankedBefore(int one, int other) {
            if (orders[one].due != orders[other].due) {
                return orders[one].due < orders[other].due;
            }
            if (orders[one].linesLeft() != orders[other].linesLeft()) {
                return orders[one].linesLeft() > orders[other].linesLeft();
            }
            return one < other;
        }

        boolean isLoaded(int robot) {
            int order = robots[robot].order;
            return isOrder(order) && orders[order].picked > 0;
        }

        int stepCost(int robot) {
            return isLoaded(robot) ? settings[WEIGHT] : 1;
        }

        int loadedCount() {
            int count = 0;
            for (int robot = 0; isRobot(robot) && robot < ROBOT_LIMIT; robot++) {
                if (isLoaded(robot)) {
                    count++;
                }
            }
            return count;
        }

        int stepSum() {
            int sum = 0;
            for (int robot = 0; isRobot(robot) && robot < ROBOT_LIMIT; robot++) {
                sum += robots[robot].steps;
            }
            return sum;
        }

        int batterySum() {
            int sum = 0;
            for (int robot = 0; isRobot(robot) && robot < ROBOT_LIMIT; robot++) {
                sum += robots[robot].battery;
            }
            return sum;
        }

        int pickedSum() {
            int sum = 0;
            for (int order = 0; isOrder(order) && order < ORDER_LIMIT; order++) {
                sum += orders[order].picked;
            }
            return sum;
        }

        int latenessSum() {
            int sum = 0;
            for (int order = 0; isOrder(order) && order < ORDER_LIMIT; order++) {
                if (orders[order].deliveredAt != NONE) {
                    sum += orders[order].deliveredAt - orders[order].due;
                }
            }
            return sum;
        }

        /**
         * The number of orders delivered in one tick. What a robot does in it touches itself and
         * its own order alone, so that each one can finish the tick before the next one begins it.
         */
        int tick() {
            now++;
            int delivered = 0;
            for (int i = 0; isRobot(i) && i < ROBOT_LIMIT; i++) {
                Robot robot = robots[i];
                if (robot.ticksLeft > 0) {
                    robot.goOn();
                    delivered += robot.ticksLeft == 0 ? endPlan(robot) : 0;
                } else if (isCell(robot.cell) && kinds[robot.cell] == CHARGER) {
                    robot.charge(settings[RATE]);
                }
            }
            return delivered;
        }

        /** 1 if an order is delivered by it, 0 otherwise. */
        private int endPlan(Robot robot) {
            if (!isOrder(robot.order) || !isCell(robot.cell)) {
                return 0;
            }
            Order order = orders[robot.order];
            if (order.isNextLine(robot.cell)) {
                order.picked++;
            } else if (order.linesLeft() == 0 && kinds[robot.cell] == STATION) {
                order.deliveredAt = now;
                robot.order = NONE;
                return 1;
            }
            return 0;
        }
    }

    /** The latest warehouses before changes, in a ring. */
    private static final class History {
        final Warehouse[] kept;
        int next;
        int count;

        History() {
            kept = new Warehouse[UNDO_LIMIT];
            for (int i = 0; i < kept.length; i++) {
                kept[i] = new Warehouse();
            }
        }

        void keep(Warehouse house) {
            if (next < 0 || next >= UNDO_LIMIT) {
                next = 0;
            }
            kept[next].copyFrom(house);
            next = next + 1 < UNDO_LIMIT ? next + 1 : 0;
            count = Math.min(UNDO_LIMIT, count + 1);
        }

        void giveBack(Warehouse house) {
            if (count <= 0) {
                return;
            }
            next = next > 0 && next < UNDO_LIMIT ? next - 1 : UNDO_LIMIT - 1;
            house.copyFrom(kept[next]);
            count--;
        }
    }

    /** Numbers of steps between cells, whatever robots do. */
    private static final class Distances {
        private final Warehouse house;
        private final int[] queue;
        private final int[] steps;
        private final int[][] table;
        private final long[] near;
        private final long[] wider;
        private int tableRows;
        private int tableColumns;
        private long tableOpen;

        Distances(Warehouse of) {
            house = of;
            queue = new int[CELL_LIMIT];
            steps = new int[CELL_LIMIT];
            table = new int[CELL_LIMIT][CELL_LIMIT];
            near = new long[CELL_LIMIT];
            wider = new long[CELL_LIMIT];
        }

        int between(int from, int to) {
            measureFrom(from);
            return stepsTo(to);
        }

        private int stepsTo(int cell) {
            return house.isCell(cell) ? steps[cell] : NONE;
        }

        private void measureFrom(int from) {
            Arrays.fill(steps, NONE);
            if (!house.isCell(from)) {
                return;
            }
            steps[from] = 0;
            queue[0] = from;
            int tail = 1;
            for (int head = 0; head < tail && head < CELL_LIMIT; head++) {
                int here = queue[head];
                for (int direction = 0; direction < NEIGHBORS; direction++) {
                    int next = house.neighbor(here, direction);
                    if (house.canEnter(next) && steps[next] == NONE && tail < CELL_LIMIT) {
                        steps[next] = steps[here] + 1;
                        queue[tail] = next;
                        tail++;
                    }
                }
            }
        }

        int countFrom(int from) {
            measureFrom(from);
            int count = 0;
            for (int cell = 0; cell < CELL_LIMIT; cell++) {
                if (steps[cell] != NONE) {
                    count++;
                }
            }
            return count;
        }

        int farthestFrom(int from) {
            measureFrom(from);
            int best = from;
            for (int cell = 0; cell < CELL_LIMIT; cell++) {
                if (steps[cell] > stepsTo(best)) {
                    best = cell;
                }
            }
            return best;
        }

        int bestRobotFor(int goal) {
            int best = NONE;
            int bestSteps = NONE;
            for (int i = 0; house.isRobot(i) && i < ROBOT_LIMIT; i++) {
                if (house.robots[i].order != NONE) {
                    continue;
                }
                int found = between(house.robots[i].cell, goal);
                if (found != NONE && (best == NONE || isBetter(i, found, best, bestSteps))) {
                    best = i;
                    bestSteps = found;
                }
            }
            return best;
        }

        private boolean isBetter(int robot, int found, int best, int bestSteps) {
            if (found != bestSteps) {
                return found < bestSteps;
            }
            return house.robots[robot].battery > house.robots[best].battery;
        }

        /** The steps of the tour of an order, NONE if there is no way somewhere. */
        int through(Order order) {
            int sum = 0;
            int here = order.lines[0];
            for (int i = 1; i < order.lineCount && i < LINE_LIMIT; i++) {
                int found = between(here, order.lines[i]);
                if (found == NONE) {
                    return NONE;
                }
                sum += found;
                here = order.lines[i];
            }
            int last = toNearestStation(here);
            return last == NONE ? NONE : sum + last;
        }

        private int toNearestStation(int from) {
            measureFrom(from);
            int least = NONE;
            for (int cell = 0; house.isCell(cell) && cell < CELL_LIMIT; cell++) {
                boolean isNearer = least == NONE || steps[cell] < least;
                if (house.kinds[cell] == STATION && steps[cell] != NONE && isNearer) {
                    least = steps[cell];
                }
            }
            return least;
        }

        int betweenByTable(int from, int to) {
            if (!house.isCell(from) || !house.isCell(to)) {
                return NONE;
            }
            renewTable();
            return table[from][to];
        }

        /** The table depends on these three alone, so that it is made anew only if one has changed. */
        private void renewTable() {
            long open = openCells();
            if (tableRows == house.rows && tableColumns == house.columns && tableOpen == open) {
                return;
            }
            tableRows = house.rows;
            tableColumns = house.columns;
            tableOpen = open;
            fillTable();
        }

        private long openCells() {
            long open = 0L;
            for (int cell = 0; house.isCell(cell) && cell < CELL_LIMIT; cell++) {
                if (house.canEnter(cell)) {
                    open |= 1L << cell;
                }
            }
            return open;
        }

        /** All cells at once: each round knows, of each cell, the cells that are one step farther. */
        private void fillTable() {
            for (int cell = 0; cell < CELL_LIMIT; cell++) {
                Arrays.fill(table[cell], NONE);
                table[cell][cell] = 0;
                near[cell] = 1L << cell;
            }
            boolean isGrowing = true;
            for (int round = 1; isGrowing && round < CELL_LIMIT; round++) {
                isGrowing = false;
                for (int cell = 0; house.isCell(cell) && cell < CELL_LIMIT; cell++) {
                    wider[cell] = near[cell] | nearOfNeighbors(cell);
                    long fresh = wider[cell] & ~near[cell];
                    if (fresh != 0L) {
                        isGrowing = true;
                        noteRound(table[cell], fresh, round);
                    }
                }
                System.arraycopy(wider, 0, near, 0, CELL_LIMIT);
            }
        }

        private long nearOfNeighbors(int cell) {
            long cells = 0L;
            for (int direction = 0; direction < NEIGHBORS; direction++) {
                int next = house.neighbor(cell, direction);
                if (house.canEnter(next)) {
                    cells |= near[next];
                }
            }
            return cells;
        }

        private static void noteRound(int[] row, long fresh, int round) {
            for (int cell = 0; cell < row.length; cell++) {
                if ((fresh >>> cell & 1L) != 0L) {
                    row[cell] = round;
                }
            }
        }
    }

    /** Looks for plans through the cells that the other robots leave free, tick by tick. */
    private static final class Planner {
        private final Warehouse house;
        private final int[] queue;
        private final int[] origin;
        private final long[] taken;
        final int[] path;
        private int robot;
        private int goal;
        private int goalTakenUntil;

        Planner(Warehouse of) {
            house = of;
            queue = new int[NODE_LIMIT];
            origin = new int[NODE_LIMIT];
            taken = new long[TICK_LIMIT + 1];
            path = new int[TICK_LIMIT];
        }

        /**
         * The ticks of the first plan, which is in path then, or NONE. Nodes are cells at ticks. As
         * each tick's nodes are in the queue by the rank of the paths that lead to them, the first
         * path that comes to a node is the first one of all to it. Nor can a path that rests in the
         * goal be found: it would have been one with fewer ticks.
         */
        int findFirst(int ofRobot, int toGoal) {
            if (!prepare(ofRobot, toGoal)) {
                return NONE;
            }
            Arrays.fill(origin, NONE);
            int horizon = horizon();
            queue[0] = house.robots[robot].cell;
            int tail = 1;
            for (int head = 0; head < tail && head < NODE_LIMIT; head++) {
                int node = queue[head];
                int from = node % CELL_LIMIT;
                int tick = node / CELL_LIMIT + 1;
                if (tick > horizon) {
                    return NONE;
                }
                for (int direction = 0; direction <= STAYING; direction++) {
                    int to = house.neighbor(from, direction);
                    if (!canStep(from, to, tick) || origin[tick * CELL_LIMIT + to] != NONE || tail >= NODE_LIMIT) {
                        continue;
                    }
                    origin[tick * CELL_LIMIT + to] = node;
                    queue[tail] = tick * CELL_LIMIT + to;
                    tail++;
                    if (canEndAt(to, tick)) {
                        tracePath(tick);
                        return tick;
                    }
                }
            }
            return NONE;
        }

        private void tracePath(int ticks) {
            int node = ticks * CELL_LIMIT + goal;
            for (int tick = ticks; tick > 0 && tick <= TICK_LIMIT; tick--) {
                if (node < 0 || node >= NODE_LIMIT) {
                    return;
                }
                path[tick - 1] = node % CELL_LIMIT;
                node = origin[node];
            }
        }

        int stepsOfPath(int ticks) {
            int count = 0;
            int before = house.robots[robot].cell;
            for (int i = 0; i < ticks && i < TICK_LIMIT; i++) {
                if (path[i] != before) {
                    count++;
                }
                before = path[i];
            }
            return count;
        }

        /** The same ticks from the sets of cells in which the robot can be, one tick after the other. */
        int findTickByTick(int ofRobot, int toGoal) {
            if (!prepare(ofRobot, toGoal)) {
                return NONE;
            }
            long cells = 1L << house.robots[robot].cell;
            int horizon = horizon();
            for (int tick = 1; tick <= horizon; tick++) {
                cells = cellsAfter(cells, tick);
                if ((cells >>> goal & 1L) != 0L && canEndAt(goal, tick)) {
                    return tick;
                }
            }
            return NONE;
        }

        private long cellsAfter(long cells, int tick) {
            long after = 0L;
            for (int to = 0; house.isCell(to) && to < CELL_LIMIT; to++) {
                if (canComeTo(to, cells, tick)) {
                    after |= 1L << to;
                }
            }
            return after;
        }

        private boolean canComeTo(int to, long cells, int tick) {
            for (int direction = 0; direction <= STAYING; direction++) {
                int from = house.neighbor(to, direction);
                if (from != NONE && (cells >>> from & 1L) != 0L && canStep(from, to, tick)) {
                    return true;
                }
            }
            return false;
        }

        /** False if it is known at once that there is no plan. */
        private boolean prepare(int ofRobot, int toGoal) {
            if (!house.isRobot(ofRobot) || !house.isCell(house.robots[ofRobot].cell) || !house.canEnter(toGoal)) {
                return false;
            }
            robot = ofRobot;
            goal = toGoal;
            goalTakenUntil = NONE;
            Arrays.fill(taken, 0L);
            for (int i = 0; house.isRobot(i) && i < ROBOT_LIMIT; i++) {
                if (i != robot) {
                    noteOther(house.robots[i]);
                }
            }
            return goalTakenUntil < horizon();
        }

        private void noteOther(Robot other) {
            for (int tick = 0; tick < taken.length; tick++) {
                taken[tick] |= 1L << other.cellAhead(tick);
            }
            goalTakenUntil = Math.max(goalTakenUntil, other.lastTickIn(goal));
        }

        private int horizon() {
            return Math.min(TICK_LIMIT, house.settings[HORIZON]);
        }

        private boolean canEndAt(int cell, int tick) {
            return cell == goal && tick > goalTakenUntil;
        }

        private boolean canStep(int from, int to, int tick) {
            if (!house.canEnter(to) || isTaken(to, tick)) {
                return false;
            }
            return from == to || !isTaken(to, tick - 1) || !changesPlaces(from, to, tick);
        }

        private boolean isTaken(int cell, int tick) {
            return tick >= 0 && tick < taken.length && (taken[tick] >>> cell & 1L) != 0L;
        }

        private boolean changesPlaces(int from, int to, int tick) {
            for (int i = 0; house.isRobot(i) && i < ROBOT_LIMIT; i++) {
                Robot other = house.robots[i];
                if (i != robot && other.cellAhead(tick - 1) == to && other.cellAhead(tick) == from) {
                    return true;
                }
            }
            return false;
        }
    }
}
