import java.util.ArrayDeque;
import java.util.ArrayList;
import java.util.Arrays;
import java.util.Deque;
import java.util.HashMap;
import java.util.List;
import java.util.Map;
import java.util.NoSuchElementException;

/**
 * The document once more, written for the tests in the slowest and plainest way, with nothing in
 * common with RobotAisles: what both answer is compared in ModelTest and in RunsTest.
 */
public final class Model {
    private static final class Bot {
        int cell;
        int battery;
        int order = -1;
        int steps;
        int unit;
        List<Integer> plan = new ArrayList<>();

        Bot twin() {
            Bot b = new Bot();
            b.cell = cell;
            b.battery = battery;
            b.order = order;
            b.steps = steps;
            b.unit = unit;
            b.plan = new ArrayList<>(plan);
            return b;
        }

        int at(int ahead) {
            if (ahead == 0 || plan.isEmpty()) {
                return cell;
            }
            return ahead <= plan.size() ? plan.get(ahead - 1) : plan.get(plan.size() - 1);
        }
    }

    private static final class Job {
        int due;
        List<Integer> lines = new ArrayList<>();
        int picked;
        int state;
        int bot = -1;
        int done = -1;

        Job twin() {
            Job j = new Job();
            j.due = due;
            j.lines = new ArrayList<>(lines);
            j.picked = picked;
            j.state = state;
            j.bot = bot;
            j.done = done;
            return j;
        }
    }

    private static final class State {
        String[] rows = {".."};
        List<Integer> closed = new ArrayList<>();
        List<Bot> bots = new ArrayList<>();
        List<Job> jobs = new ArrayList<>();
        int now;
        int[] settings = {5, 2, 30};

        State twin() {
            State s = new State();
            s.rows = rows.clone();
            s.closed = new ArrayList<>(closed);
            for (Bot b : bots) {
                s.bots.add(b.twin());
            }
            for (Job j : jobs) {
                s.jobs.add(j.twin());
            }
            s.now = now;
            s.settings = settings.clone();
            return s;
        }
    }

    private State s = new State();
    private State saved;
    private final Deque<State> past = new ArrayDeque<>();
    private String text = "";
    private int fault = -1;
    private int why = -1;
    private int detail;

    private int columns() {
        return s.rows[0].length();
    }

    private int cells() {
        return s.rows.length * columns();
    }

    private boolean isCell(int c) {
        return c >= 0 && c < cells();
    }

    private char sign(int c) {
        return s.rows[c / columns()].charAt(c % columns());
    }

    private boolean enterable(int c) {
        return sign(c) != '#' && !s.closed.contains(c);
    }

    /** Above, right, below, left; -1 where there is none. */
    private int[] around(int c) {
        int w = columns();
        int r = c / w;
        int k = c % w;
        return new int[] {
            r > 0 ? c - w : -1, k < w - 1 ? c + 1 : -1, r < s.rows.length - 1 ? c + w : -1, k > 0 ? c - 1 : -1
        };
    }

    private boolean isBot(int r) {
        return r >= 0 && r < s.bots.size();
    }

    private boolean isJob(int o) {
        return o >= 0 && o < s.jobs.size();
    }

    private void change() {
        past.addLast(s.twin());
        if (past.size() > 8) {
            past.removeFirst();
        }
    }

    private UnsupportedOperationException no(int reason, int withDetail) {
        why = reason;
        detail = withDetail;
        return new UnsupportedOperationException();
    }

    /** The lowest robot but one that is in the cell or will be, -1 if there is none. */
    private int user(int c, int but) {
        for (int r = 0; r < s.bots.size(); r++) {
            if (r != but && (s.bots.get(r).cell == c || s.bots.get(r).plan.contains(c))) {
                return r;
            }
        }
        return -1;
    }

    public int append(char character) {
        if (text.length() == 60) {
            throw new IllegalStateException();
        }
        text += character;
        return text.length();
    }

    /** Whether some layout's text begins with it: all shapes are tried. */
    private static boolean begins(String start, boolean whole) {
        for (int r = 1; r <= 6; r++) {
            for (int w = 2; w <= 8; w++) {
                int full = r * w + r - 1;
                boolean fits = whole ? start.length() == full : start.length() <= full;
                for (int i = 0; fits && i < start.length(); i++) {
                    boolean slash = i % (w + 1) == w;
                    fits = slash ? start.charAt(i) == '/' : ".#+@".indexOf(start.charAt(i)) >= 0;
                }
                if (fits) {
                    return true;
                }
            }
        }
        return false;
    }

    public int layout() {
        String t = text;
        text = "";
        fault = -1;
        for (int i = 0; i < t.length() && fault < 0; i++) {
            if (!begins(t.substring(0, i + 1), false)) {
                fault = i;
            }
        }
        if (fault < 0 && !begins(t, true)) {
            fault = t.length();
        }
        if (fault >= 0) {
            throw new IllegalArgumentException();
        }
        change();
        State fresh = new State();
        fresh.rows = t.split("/");
        fresh.settings = s.settings;
        s = fresh;
        return cells();
    }

    public int faultPosition() {
        return fault;
    }

    public int add(int cell, int battery) {
        if (!isCell(cell)) {
            throw no(1, 0);
        }
        if (battery < 0 || battery > 99) {
            throw no(2, 0);
        }
        if (s.bots.size() == 6) {
            throw no(3, 0);
        }
        if (!enterable(cell)) {
            throw no(4, cell);
        }
        if (user(cell, -1) >= 0) {
            throw no(5, user(cell, -1));
        }
        change();
        Bot b = new Bot();
        b.cell = cell;
        b.battery = battery;
        s.bots.add(b);
        return s.bots.size() - 1;
    }

    public int takeOff(int robot) {
        if (!isBot(robot)) {
            throw no(1, 0);
        }
        if (s.bots.get(robot).order >= 0) {
            throw no(7, s.bots.get(robot).order);
        }
        change();
        s.bots.remove(robot);
        for (Job j : s.jobs) {
            if (j.bot > robot) {
                j.bot--;
            }
        }
        return s.bots.size();
    }

    public int order(int due, int first, int second, int third) {
        if (!isCell(first) || (second != -1 && !isCell(second)) || (third != -1 && !isCell(third))) {
            throw no(1, 0);
        }
        if (due < 0 || due > 999 || (second == -1 && third != -1)) {
            throw no(2, 0);
        }
        if (s.jobs.size() == 10) {
            throw no(3, 0);
        }
        Job j = new Job();
        j.due = due;
        for (int c : new int[] {first, second, third}) {
            if (c != -1) {
                j.lines.add(c);
            }
        }
        for (int c : j.lines) {
            if (sign(c) != '.') {
                throw no(12, c);
            }
        }
        change();
        s.jobs.add(j);
        return s.jobs.size() - 1;
    }

    public int assign(int robot, int order) {
        if (!isBot(robot) || !isJob(order)) {
            throw no(1, 0);
        }
        if (s.bots.get(robot).order >= 0) {
            throw no(7, s.bots.get(robot).order);
        }
        if (s.jobs.get(order).state != 0) {
            throw no(8, s.jobs.get(order).state);
        }
        change();
        s.bots.get(robot).order = order;
        s.jobs.get(order).bot = robot;
        s.jobs.get(order).state = 1;
        return s.jobs.get(order).lines.size();
    }

    public int release(int robot) {
        if (!isBot(robot)) {
            throw no(1, 0);
        }
        if (s.bots.get(robot).order < 0) {
            throw no(7, -1);
        }
        change();
        int order = s.bots.get(robot).order;
        s.bots.get(robot).order = -1;
        Job j = s.jobs.get(order);
        j.bot = -1;
        j.state = 0;
        j.picked = 0;
        return order;
    }

    public int close(int cell) {
        if (!isCell(cell)) {
            throw no(1, 0);
        }
        if (s.closed.contains(cell)) {
            throw no(13, 0);
        }
        if (sign(cell) == '#') {
            throw no(4, cell);
        }
        if (user(cell, -1) >= 0) {
            throw no(5, user(cell, -1));
        }
        change();
        s.closed.add(cell);
        return s.closed.size();
    }

    public int open(int cell) {
        if (!isCell(cell)) {
            throw no(1, 0);
        }
        if (!s.closed.contains(cell)) {
            throw no(13, 0);
        }
        change();
        s.closed.remove((Integer) cell);
        return s.closed.size();
    }

    public int set(int what, int value) {
        if (what < 0 || what > 2 || value < 1 || value > new int[] {20, 3, 30}[what]) {
            throw no(2, 0);
        }
        change();
        int before = s.settings[what];
        s.settings[what] = value;
        return before;
    }

    /** All that a plan must keep to at a tick, as the document says it. */
    private boolean mayMove(int robot, int from, int to, int tick) {
        if (to < 0 || !enterable(to)) {
            return false;
        }
        for (int r = 0; r < s.bots.size(); r++) {
            if (r == robot) {
                continue;
            }
            Bot b = s.bots.get(r);
            if (b.at(tick) == to || (from != to && b.at(tick - 1) == to && b.at(tick) == from)) {
                return false;
            }
        }
        return true;
    }

    private boolean canComplete(int robot, int goal, int from, int tick, int last, Map<Integer, Boolean> known) {
        if (tick == last) {
            return from == goal;
        }
        if (tick == last - 1 && from == goal) {
            return false;
        }
        int key = tick * 100 + from;
        if (known.containsKey(key)) {
            return known.get(key);
        }
        boolean can = false;
        for (int to : choices(from)) {
            can = can || mayMove(robot, from, to, tick + 1)
                && canComplete(robot, goal, to, tick + 1, last, known);
        }
        known.put(key, can);
        return can;
    }

    private int[] choices(int from) {
        int[] all = Arrays.copyOf(around(from), 5);
        all[4] = from;
        return all;
    }

    /** The first plan with the fewest ticks, null if there is none. */
    private List<Integer> firstPlan(int robot, int goal) {
        for (int last = 1; last <= s.settings[2]; last++) {
            boolean isFree = true;
            for (int r = 0; r < s.bots.size(); r++) {
                for (int tick = last + 1; r != robot && tick <= 62; tick++) {
                    isFree = isFree && s.bots.get(r).at(tick) != goal;
                }
            }
            Map<Integer, Boolean> known = new HashMap<>();
            int here = s.bots.get(robot).cell;
            if (!isFree || !canComplete(robot, goal, here, 0, last, known)) {
                continue;
            }
            List<Integer> plan = new ArrayList<>();
            for (int tick = 1; tick <= last; tick++) {
                for (int to : choices(here)) {
                    if (mayMove(robot, here, to, tick) && canComplete(robot, goal, to, tick, last, known)) {
                        here = to;
                        break;
                    }
                }
                plan.add(here);
            }
            return plan;
        }
        return null;
    }

    private boolean isLoaded(Bot b) {
        return b.order >= 0 && s.jobs.get(b.order).picked > 0;
    }

    public int plan(int robot, int goal) {
        if (!isBot(robot) || !isCell(goal)) {
            throw no(1, 0);
        }
        Bot b = s.bots.get(robot);
        if (!b.plan.isEmpty()) {
            throw no(6, b.plan.size());
        }
        if (b.cell == goal) {
            throw no(9, 0);
        }
        if (!enterable(goal)) {
            throw no(4, goal);
        }
        List<Integer> plan = firstPlan(robot, goal);
        if (plan == null) {
            throw no(10, 0);
        }
        int unit = isLoaded(b) ? s.settings[1] : 1;
        int moves = 0;
        for (int i = 0; i < plan.size(); i++) {
            moves += plan.get(i) != (i == 0 ? b.cell : (int) plan.get(i - 1)) ? 1 : 0;
        }
        if (b.battery < moves * unit) {
            throw no(11, moves * unit);
        }
        change();
        s.bots.get(robot).plan = plan;
        s.bots.get(robot).unit = unit;
        return plan.size();
    }

    public int cancel(int robot) {
        if (!isBot(robot)) {
            throw no(1, 0);
        }
        Bot b = s.bots.get(robot);
        if (b.plan.isEmpty()) {
            throw no(14, 0);
        }
        if (user(b.cell, robot) >= 0) {
            throw no(5, user(b.cell, robot));
        }
        change();
        int left = b.plan.size();
        b.plan.clear();
        return left;
    }

    public int pass(int ticks) {
        if (ticks < 1 || ticks > 99) {
            throw no(2, 0);
        }
        change();
        int delivered = 0;
        for (int i = 0; i < ticks; i++) {
            delivered += tick();
        }
        return delivered;
    }

    private int tick() {
        s.now++;
        List<Bot> planless = new ArrayList<>();
        List<Bot> ended = new ArrayList<>();
        for (Bot b : s.bots) {
            if (b.plan.isEmpty()) {
                planless.add(b);
                continue;
            }
            int next = b.plan.remove(0);
            if (next != b.cell) {
                b.battery -= b.unit;
                b.steps++;
            }
            b.cell = next;
            if (b.plan.isEmpty()) {
                ended.add(b);
            }
        }
        for (Bot b : planless) {
            if (sign(b.cell) == '+') {
                b.battery = Math.min(99, b.battery + s.settings[0]);
            }
        }
        int delivered = 0;
        for (Bot b : ended) {
            Job j = b.order < 0 ? null : s.jobs.get(b.order);
            if (j != null && j.picked < j.lines.size() && j.lines.get(j.picked) == b.cell) {
                j.picked++;
            } else if (j != null && j.picked == j.lines.size() && sign(b.cell) == '@') {
                j.state = 2;
                j.done = s.now;
                j.bot = -1;
                b.order = -1;
                delivered++;
            }
        }
        return delivered;
    }

    public int cell(int cell, int what) {
        if (!isCell(cell)) {
            throw new IndexOutOfBoundsException();
        }
        if (what == 0) {
            return ".#+@".indexOf(sign(cell));
        }
        if (what == 1) {
            return enterable(cell) ? 1 : 0;
        }
        if (what == 2) {
            return reserved(cell, 0);
        }
        if (what == 3) {
            int count = 0;
            for (int n : around(cell)) {
                count += n >= 0 && enterable(n) ? 1 : 0;
            }
            return count;
        }
        throw new IllegalArgumentException();
    }

    public char letter(int cell) {
        if (!isCell(cell)) {
            throw new IndexOutOfBoundsException();
        }
        if (reserved(cell, 0) >= 0) {
            return Character.forDigit(reserved(cell, 0), 10);
        }
        return s.closed.contains(cell) ? 'x' : sign(cell);
    }

    private int[][] allDistances() {
        int n = cells();
        int[][] d = new int[n][n];
        for (int a = 0; a < n; a++) {
            Arrays.fill(d[a], 1000);
            d[a][a] = 0;
            for (int b : around(a)) {
                if (b >= 0 && enterable(b)) {
                    d[a][b] = 1;
                }
            }
        }
        for (int k = 0; k < n; k++) {
            for (int a = 0; a < n; a++) {
                for (int b = 0; b < n; b++) {
                    d[a][b] = Math.min(d[a][b], d[a][k] + d[k][b]);
                }
            }
        }
        return d;
    }

    public int distance(int from, int to) {
        if (!isCell(from) || !isCell(to)) {
            throw new IndexOutOfBoundsException();
        }
        int d = allDistances()[from][to];
        if (d >= 1000) {
            throw new NoSuchElementException();
        }
        return d;
    }

    public int distanceAgain(int from, int to) {
        return distance(from, to);
    }

    public int reach(int cell) {
        if (!isCell(cell)) {
            throw new IndexOutOfBoundsException();
        }
        int count = 0;
        for (int d : allDistances()[cell]) {
            count += d < 1000 ? 1 : 0;
        }
        return count;
    }

    public int farthest(int cell) {
        if (!isCell(cell)) {
            throw new IndexOutOfBoundsException();
        }
        int[] d = allDistances()[cell];
        int best = -1;
        for (int c = 0; c < d.length; c++) {
            if (d[c] < 1000 && (best < 0 || d[c] > d[best])) {
                best = c;
            }
        }
        return best;
    }

    public int robotOf(int robot, int what) {
        if (!isBot(robot)) {
            throw new IndexOutOfBoundsException();
        }
        Bot b = s.bots.get(robot);
        if (what < 0 || what > 6) {
            throw new IllegalArgumentException();
        }
        int end = b.plan.isEmpty() ? -1 : b.plan.get(b.plan.size() - 1);
        return new int[] {b.cell, b.battery, b.order, b.plan.size(), end, isLoaded(b) ? 1 : 0, b.steps}[what];
    }

    public int planned(int robot, int ahead) {
        if (!isBot(robot)) {
            throw new IndexOutOfBoundsException();
        }
        if (ahead < 0) {
            throw new IllegalArgumentException();
        }
        return s.bots.get(robot).at(ahead);
    }

    public int reserved(int cell, int ahead) {
        if (!isCell(cell)) {
            throw new IndexOutOfBoundsException();
        }
        if (ahead < 0) {
            throw new IllegalArgumentException();
        }
        for (int r = 0; r < s.bots.size(); r++) {
            if (s.bots.get(r).at(ahead) == cell) {
                return r;
            }
        }
        return -1;
    }

    public int arrival(int robot, int goal) {
        if (!isBot(robot) || !isCell(goal)) {
            throw new IndexOutOfBoundsException();
        }
        if (!enterable(goal)) {
            throw new NoSuchElementException();
        }
        if (s.bots.get(robot).cell == goal) {
            return 0;
        }
        List<Integer> plan = firstPlan(robot, goal);
        if (plan == null) {
            throw new NoSuchElementException();
        }
        return plan.size();
    }

    public int arrivalAgain(int robot, int goal) {
        return arrival(robot, goal);
    }

    public int orderOf(int order, int what) {
        if (!isJob(order)) {
            throw new IndexOutOfBoundsException();
        }
        if (what < 0 || what > 5) {
            throw new IllegalArgumentException();
        }
        Job j = s.jobs.get(order);
        return new int[] {j.due, j.lines.size(), j.picked, j.state, j.bot, j.done}[what];
    }

    public int line(int order, int index) {
        if (!isJob(order) || index < 0 || index >= s.jobs.get(order).lines.size()) {
            throw new IndexOutOfBoundsException();
        }
        return s.jobs.get(order).lines.get(index);
    }

    public int waiting(int index) {
        List<Integer> ranked = new ArrayList<>();
        for (int o = 0; o < s.jobs.size(); o++) {
            if (s.jobs.get(o).state == 0) {
                ranked.add(o);
            }
        }
        if (index == -1) {
            return ranked.size();
        }
        ranked.sort((a, b) -> {
            Job x = s.jobs.get(a);
            Job y = s.jobs.get(b);
            int left = (y.lines.size() - y.picked) - (x.lines.size() - x.picked);
            return x.due != y.due ? x.due - y.due : left != 0 ? left : a - b;
        });
        if (index < 0 || index >= ranked.size()) {
            throw new NoSuchElementException();
        }
        return ranked.get(index);
    }

    public int suited(int order) {
        if (!isJob(order)) {
            throw new IndexOutOfBoundsException();
        }
        int[][] d = allDistances();
        int goal = s.jobs.get(order).lines.get(0);
        List<Integer> fit = new ArrayList<>();
        for (int r = 0; r < s.bots.size(); r++) {
            if (s.bots.get(r).order < 0 && d[s.bots.get(r).cell][goal] < 1000) {
                fit.add(r);
            }
        }
        if (fit.isEmpty()) {
            throw new NoSuchElementException();
        }
        fit.sort((a, b) -> {
            Bot x = s.bots.get(a);
            Bot y = s.bots.get(b);
            int way = d[x.cell][goal] - d[y.cell][goal];
            return way != 0 ? way : x.battery != y.battery ? y.battery - x.battery : a - b;
        });
        return fit.get(0);
    }

    public int tour(int order) {
        if (!isJob(order)) {
            throw new IndexOutOfBoundsException();
        }
        int[][] d = allDistances();
        List<Integer> lines = s.jobs.get(order).lines;
        int sum = 0;
        for (int i = 1; i < lines.size(); i++) {
            sum += d[lines.get(i - 1)][lines.get(i)];
        }
        int least = 1000;
        for (int c = 0; c < cells(); c++) {
            if (sign(c) == '@') {
                least = Math.min(least, d[lines.get(lines.size() - 1)][c]);
            }
        }
        if (sum + least >= 1000) {
            throw new NoSuchElementException();
        }
        return sum + least;
    }

    public float loaded() {
        if (s.bots.isEmpty()) {
            throw new ArithmeticException();
        }
        int count = 0;
        for (Bot b : s.bots) {
            count += isLoaded(b) ? 1 : 0;
        }
        return (float) count / (float) s.bots.size();
    }

    public double lateness() {
        double sum = 0;
        double count = 0;
        for (Job j : s.jobs) {
            if (j.state == 2) {
                sum += j.done - j.due;
                count++;
            }
        }
        if (count == 0) {
            throw new ArithmeticException();
        }
        return sum / count;
    }

    public int reason(boolean isDetail) {
        if (why < 0) {
            throw new NoSuchElementException();
        }
        return isDetail ? detail : why;
    }

    public int account(int what) {
        if (what < 0 || what > 16) {
            throw new IllegalArgumentException();
        }
        int[] states = new int[3];
        int picked = 0;
        for (Job j : s.jobs) {
            states[j.state]++;
            picked += j.picked;
        }
        int steps = 0;
        int batteries = 0;
        for (Bot b : s.bots) {
            steps += b.steps;
            batteries += b.battery;
        }
        return new int[] {
            s.rows.length, columns(), s.bots.size(), s.jobs.size(), states[0], states[1], states[2], s.closed.size(),
            s.now, steps, picked, batteries, past.size(), text.length(), s.settings[0], s.settings[1], s.settings[2]
        }[what];
    }

    public int undo() {
        if (past.isEmpty()) {
            throw new IllegalStateException();
        }
        s = past.removeLast();
        return past.size();
    }

    public int save() {
        saved = s.twin();
        return s.bots.size();
    }

    public int restore() {
        if (saved == null) {
            throw new IllegalStateException();
        }
        s = saved.twin();
        past.clear();
        return s.bots.size();
    }
}
