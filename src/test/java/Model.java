import java.util.ArrayList;
import java.util.Arrays;
import java.util.HashSet;
import java.util.List;
import java.util.Set;

/**
 * The document in a second form, to hold the class against: its jobs are planned for a whole period when
 * that begins, its words are known by their names, and its faults are searched for as they are told.
 */
final class Model {
    private static final String[] NAMES = {"END", "PUSH", "GET", "SET", "ADD", "SUB", "MUL", "DIV", "LESS", "SAME",
        "JUMP", "SKIP", "DUP", "SWAP", "DROP", "LOAD", "STORE"};
    private static final List<String> OF_TWO = List.of("ADD", "SUB", "MUL", "DIV", "LESS", "SAME");

    private static final class Job {
        final int task;
        final int released;
        final int published;
        final List<Integer> stack = new ArrayList<>();
        int left;
        int next;
        boolean done;
        boolean overran;

        Job(int task, int released, int published) {
            this.task = task;
            this.released = released;
            this.published = published;
        }

        int take() {
            return stack.remove(stack.size() - 1);
        }
    }

    private final int[] budgets = {1, 1, 1, 1, 1, 1, 1, 1};
    private final List<List<Integer>> codes = lists(8);
    private final int[][] locals = new int[8][4];
    private final int[][] ways = filled(8, 6);
    private final int[][] slotPorts = new int[8][6];
    private final int[][] slotValues = new int[8][6];
    private final int[][] ports = new int[16][3];
    private final int[] periods = new int[4];
    private final int[][] often = new int[4][8];
    private final List<List<int[]>> guards = lists(4);
    private final int[] sensorPorts = filled(1, 8)[0];
    private final int[] sensorValues = new int[8];
    private final int[] actuatorPorts = filled(1, 8)[0];
    private final int[][] actuators = new int[8][2];

    private final List<Job> planned = new ArrayList<>();
    private final List<Job> jobs = new ArrayList<>();
    private final List<int[]> events = new ArrayList<>();
    private boolean runs;
    private int time;
    private int mode;
    private int began;

    private static <T> List<List<T>> lists(int count) {
        List<List<T>> all = new ArrayList<>();
        for (int i = 0; i < count; i++) {
            all.add(new ArrayList<>());
        }
        return all;
    }

    private static int[][] filled(int rows, int width) {
        int[][] all = new int[rows][width];
        for (int[] row : all) {
            Arrays.fill(row, -1);
        }
        return all;
    }

    // ---- the face ----

    void task(int task, int budget) {
        index(task, 8);
        argument(1 <= budget && budget <= 200);
        state(!runs);
        budgets[task] = budget;
    }

    int code(int task, int word) {
        index(task, 8);
        argument(codes.get(task).size() != 32);
        state(!runs);
        codes.get(task).add(word);
        return codes.get(task).size();
    }

    void port(int port, int least, int greatest, int value) {
        index(port, 16);
        argument(value >= least && value <= greatest);
        state(!runs);
        ports[port] = new int[] {least, greatest, value};
    }

    void wire(int task, int slot, int port, int way) {
        index(task, 8);
        index(slot, 6);
        index(port, 16);
        argument(way == -1 || way == 0 || way == 1);
        state(!runs);
        ways[task][slot] = way;
        slotPorts[task][slot] = port;
        slotValues[task][slot] = way == 1 ? ports[port][2] : 0;
    }

    void mode(int mode, int period) {
        index(mode, 4);
        argument(0 <= period && period <= 60);
        state(!runs);
        periods[mode] = period;
    }

    void use(int mode, int task, int often) {
        index(mode, 4);
        index(task, 8);
        argument(0 <= often && often <= 12);
        state(!runs);
        this.often[mode][task] = often;
    }

    int guard(int mode, int port, int how, int value, int to) {
        index(mode, 4);
        index(port, 16);
        index(to, 4);
        argument(0 <= how && how <= 5 && guards.get(mode).size() != 4);
        state(!runs);
        guards.get(mode).add(new int[] {port, how, value, to});
        return guards.get(mode).size();
    }

    void sense(int sensor, int port) {
        index(sensor, 8);
        index(port == -1 ? 0 : port, 16);
        state(!runs);
        sensorPorts[sensor] = port;
    }

    void actuate(int actuator, int port) {
        index(actuator, 8);
        index(port == -1 ? 0 : port, 16);
        state(!runs);
        actuatorPorts[actuator] = port;
    }

    int start() {
        state(!runs);
        int fault = fault();
        if (fault == 0) {
            runs = true;
            plan();
            instant();
        }
        return fault;
    }

    void sensor(int sensor, int value) {
        index(sensor, 8);
        sensorValues[sensor] = value;
    }

    boolean pick(int task) {
        index(task, 8);
        Job job = jobOf(task);
        if (job == null || job.done) {
            return false;
        }
        step(job);
        return true;
    }

    int step(int n) {
        argument(0 <= n && n <= 2000);
        state(runs);
        int steps = 0;
        while (steps < n && first() != null) {
            step(first());
            steps++;
        }
        return steps;
    }

    int advance() {
        state(runs);
        state(time < 1000000);
        state(jobs.stream().noneMatch(job -> job.published == time + 1 && !job.done));
        time++;
        instant();
        return time;
    }

    int value(int port) {
        index(port, 16);
        return ports[port][2];
    }

    int actuator(int actuator, int what) {
        return isOf(actuator, 8) && isOf(what, 2) ? actuators[actuator][what] : -1;
    }

    int about(int what) {
        int[] all = {time, mode, began, events.size(), (int) jobs.stream().filter(job -> !job.done).count()};
        return !isOf(what, 5) || what < 3 && !runs ? -1 : all[what];
    }

    int job(int task, int what) {
        if (!isOf(task, 8) || !isOf(what, 17)) {
            return -1;
        }
        if (what >= 11) {
            return slotValues[task][what - 11];
        }
        if (what >= 6 && what <= 9) {
            return locals[task][what - 6];
        }
        Job job = jobOf(task);
        if (job == null) {
            return what == 1 || what == 2 ? -1 : 0;
        }
        int depth = job.stack.size();
        int[] all = {job.done ? 0 : job.left, job.released, job.published, job.next, depth,
            depth == 0 ? 0 : job.stack.get(depth - 1), 0, 0, 0, 0, job.overran ? 1 : 0};
        return all[what];
    }

    int event(int i, int what) {
        return isOf(i, Math.min(300, events.size())) && isOf(what, 4) ? events.get(i)[what] : -1;
    }

    // ---- refusals ----

    private static boolean isOf(int i, int count) {
        return 0 <= i && i < count;
    }

    private static void index(int i, int count) {
        if (!isOf(i, count)) {
            throw new IndexOutOfBoundsException();
        }
    }

    private static void argument(boolean right) {
        if (!right) {
            throw new IllegalArgumentException();
        }
    }

    private static void state(boolean right) {
        if (!right) {
            throw new IllegalStateException();
        }
    }

    // ---- running ----

    private Job jobOf(int task) {
        return jobs.stream().filter(job -> job.task == task).findAny().orElse(null);
    }

    private Job first() {
        Job first = null;
        for (int task = 7; task >= 0; task--) {
            Job job = jobOf(task);
            if (job != null && !job.done && (first == null || job.published <= first.published)) {
                first = job;
            }
        }
        return first;
    }

    /** All jobs of a period that begins now. */
    private void plan() {
        for (int task = 0; task < 8; task++) {
            planned.addAll(jobsOf(mode, task, began));
        }
    }

    private List<Job> jobsOf(int mode, int task, int from) {
        List<Job> all = new ArrayList<>();
        int times = uses(mode, task) ? often[mode][task] : 0;
        for (int i = 0; i < times; i++) {
            all.add(new Job(task, from + i * periods[mode] / times, from + (i + 1) * periods[mode] / times));
        }
        return all;
    }

    private void instant() {
        for (int task = 0; task < 8; task++) {
            Job job = jobOf(task);
            if (job != null && job.published == time) {
                publish(job);
                jobs.remove(job);
            }
        }
        for (int i = 0; i < 8; i++) {
            int port = actuatorPorts[i];
            if (port != -1 && actuators[i][0] != ports[port][2]) {
                actuators[i] = new int[] {ports[port][2], time};
            }
        }
        for (int i = 0; i < 8; i++) {
            if (sensorPorts[i] != -1) {
                become(sensorPorts[i], sensorValues[i]);
            }
        }
        if (time == began + periods[mode]) {
            mode = guards.get(mode).stream().filter(this::isTrue).mapToInt(guard -> guard[3]).findFirst().orElse(mode);
            began = time;
            plan();
        }
        planned.stream().filter(job -> job.released == time).forEach(this::release);
        planned.removeIf(job -> job.released == time);
    }

    private void publish(Job job) {
        for (int slot = 0; slot < 6; slot++) {
            if (ways[job.task][slot] == 1) {
                int port = slotPorts[job.task][slot];
                become(port, slotValues[job.task][slot]);
                events.add(new int[] {time, port, ports[port][2], job.overran ? 1 : 0});
            }
        }
    }

    private void become(int port, int value) {
        int[] p = ports[port];
        p[2] = value < p[0] ? p[0] : value > p[1] ? p[1] : value;
    }

    private boolean isTrue(int[] guard) {
        int order = Integer.compare(ports[guard[0]][2], guard[2]);
        boolean[] all = {order < 0, order <= 0, order == 0, order != 0, order >= 0, order > 0};
        return all[guard[1]];
    }

    private void release(Job job) {
        job.left = budgets[job.task];
        for (int slot = 0; slot < 6; slot++) {
            if (ways[job.task][slot] == 0) {
                slotValues[job.task][slot] = ports[slotPorts[job.task][slot]][2];
            }
        }
        jobs.add(job);
    }

    private void step(Job job) {
        int word = codes.get(job.task).get(job.next);
        String name = NAMES[word & 63];
        job.next++;
        job.left--;
        run(job, name, word >> 6);
        job.done = name.equals("END") || job.left == 0;
        job.overran = job.done && !name.equals("END");
    }

    private void run(Job job, String name, int n) {
        switch (name) {
            case "END" -> { }
            case "PUSH" -> job.stack.add(n);
            case "GET" -> job.stack.add(slotValues[job.task][n]);
            case "SET" -> slotValues[job.task][n] = job.take();
            case "JUMP" -> job.next = n;
            case "SKIP" -> job.next = job.take() == 0 ? n : job.next;
            case "DUP" -> job.stack.add(job.stack.get(job.stack.size() - 1));
            case "SWAP" -> job.stack.add(job.stack.remove(job.stack.size() - 2));
            case "DROP" -> job.take();
            case "LOAD" -> job.stack.add(locals[job.task][n]);
            case "STORE" -> locals[job.task][n] = job.take();
            default -> {
                long right = job.take();
                long left = job.take();
                job.stack.add(both(name, left, right));
            }
        }
    }

    private static int both(String name, long left, long right) {
        return (int) switch (name) {
            case "ADD" -> left + right;
            case "SUB" -> left - right;
            case "MUL" -> left * right;
            case "DIV" -> right == 0 ? 0 : left / right;
            case "LESS" -> left < right ? 1 : 0;
            default -> left == right ? 1 : 0;
        };
    }

    // ---- the look at it ----

    private boolean uses(int mode, int task) {
        return periods[mode] > 0 && often[mode][task] > 0;
    }

    private boolean isUsed(int task) {
        return uses(0, task) || uses(1, task) || uses(2, task) || uses(3, task);
    }

    private int fault() {
        for (int kind = 1; kind <= 6; kind++) {
            for (int i = 0; i < (kind <= 2 ? 8 : 4); i++) {
                if (isFault(kind, i)) {
                    return 100 * kind + i;
                }
            }
        }
        return 0;
    }

    private boolean isFault(int kind, int i) {
        return switch (kind) {
            case 1 -> isUsed(i) && wordsComeTo(i) == null;
            case 2 -> isUsed(i) && isMiswired(i);
            case 3 -> i == 0 && periods[0] == 0 || isUneven(i);
            case 4 -> i == 0 && sensorsMeet() || writersMeet(i);
            case 5 -> periods[i] > 0 && guards.get(i).stream().anyMatch(guard -> periods[guard[3]] == 0);
            default -> isOverloaded(i);
        };
    }

    /** The words of a code that are come to, or null if it is not as told. */
    private Set<Integer> wordsComeTo(int task) {
        List<Integer> code = codes.get(task);
        int[] depths = filled(1, 32)[0];
        Set<Integer> words = new HashSet<>();
        List<int[]> ways = new ArrayList<>();
        ways.add(new int[] {0, 0});
        while (!ways.isEmpty()) {
            int[] way = ways.remove(ways.size() - 1);
            int at = way[0];
            int depth = way[1];
            if (!isOf(at, code.size()) || depth > 8 || depths[at] != -1 && depths[at] != depth) {
                return null;
            }
            if (!words.add(at)) {
                continue;
            }
            depths[at] = depth;
            int word = code.get(at);
            if (!isTold(word, code.size()) || depth < needs(NAMES[word & 63])) {
                return null;
            }
            String name = NAMES[word & 63];
            if (name.equals("JUMP") || name.equals("SKIP")) {
                ways.add(new int[] {word >> 6, depth + growth(name)});
            }
            if (!name.equals("JUMP") && !name.equals("END")) {
                ways.add(new int[] {at + 1, depth + growth(name)});
            }
        }
        return words;
    }

    private static boolean isTold(int word, int length) {
        int n = word >> 6;
        return isOf(word & 63, 17) && switch (NAMES[word & 63]) {
            case "PUSH" -> true;
            case "GET", "SET" -> isOf(n, 6);
            case "LOAD", "STORE" -> isOf(n, 4);
            case "JUMP", "SKIP" -> isOf(n, length);
            default -> n == 0;
        };
    }

    private static int needs(String name) {
        return OF_TWO.contains(name) || name.equals("SWAP") ? 2
                : List.of("SET", "SKIP", "STORE", "DROP", "DUP").contains(name) ? 1 : 0;
    }

    private static int growth(String name) {
        return List.of("PUSH", "GET", "DUP", "LOAD").contains(name) ? 1
                : List.of("END", "JUMP", "SWAP").contains(name) ? 0 : -1;
    }

    private boolean isMiswired(int task) {
        for (int at : wordsComeTo(task)) {
            int word = codes.get(task).get(at);
            String name = NAMES[word & 63];
            if (name.equals("GET") && ways[task][word >> 6] != 0 || name.equals("SET") && ways[task][word >> 6] != 1) {
                return true;
            }
        }
        return false;
    }

    private boolean isUneven(int mode) {
        for (int task = 0; task < 8; task++) {
            if (uses(mode, task) && periods[mode] % often[mode][task] != 0) {
                return true;
            }
        }
        return false;
    }

    private boolean sensorsMeet() {
        Set<Integer> bound = new HashSet<>();
        for (int port : sensorPorts) {
            if (port != -1 && !bound.add(port)) {
                return true;
            }
        }
        return false;
    }

    private boolean writersMeet(int mode) {
        Set<Integer> written = new HashSet<>();
        for (int port : sensorPorts) {
            written.add(port);
        }
        for (int task = 0; task < 8; task++) {
            for (int slot = 0; slot < 6; slot++) {
                if (uses(mode, task) && ways[task][slot] == 1 && !written.add(slotPorts[task][slot])) {
                    return true;
                }
            }
        }
        return false;
    }

    /** Over every a and b, as the document tells it. */
    private boolean isOverloaded(int mode) {
        List<Job> all = new ArrayList<>();
        for (int task = 0; task < 8; task++) {
            all.addAll(jobsOf(mode, task, 0));
        }
        for (int a = 0; a <= periods[mode]; a++) {
            for (int b = a + 1; b <= periods[mode]; b++) {
                int sum = 0;
                for (Job job : all) {
                    sum += job.released >= a && job.published <= b ? budgets[job.task] : 0;
                }
                if (sum > 20 * (b - a)) {
                    return true;
                }
            }
        }
        return false;
    }
}
