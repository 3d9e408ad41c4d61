import java.util.Arrays;

/**
 * A kernel of logical execution time: tasks read their inputs when they are released and publish
 * their outputs at the end of their periods, whenever they are run in between.
 */
public final class PeriodKernel {
    public static final int NONE = -1;

    private static final int TASKS = 8;
    private static final int SLOTS = 6;
    private static final int LOCALS = 4;
    private static final int WORDS = 32;
    private static final int STACK = 8;
    private static final int PORTS = 16;
    private static final int MODES = 4;
    private static final int GUARDS = 4;
    private static final int SENSORS = 8;
    private static final int ACTUATORS = 8;
    private static final int EVENTS = 300;

    private static final int MOST_BUDGET = 200;
    private static final int MOST_PERIOD = 60;
    private static final int MOST_OFTEN = 12;
    private static final int MOST_STEPS = 2000;
    private static final int LAST_TIME = 1000000;
    private static final int STEPS_A_TIME = 20;

    private static final int IN = 0;
    private static final int OUT = 1;

    private final Task[] tasks = new Task[TASKS];
    private final Port[] ports = new Port[PORTS];
    private final Mode[] modes = new Mode[MODES];
    private final int[] sensorPorts = new int[SENSORS];
    private final int[] sensorValues = new int[SENSORS];
    private final Actuator[] actuators = new Actuator[ACTUATORS];
    private final EventLog events = new EventLog();
    private final ProgramLook look = new ProgramLook();
    private boolean running;
    private int now;
    private int current;
    private int began;

    public PeriodKernel() {
        for (int i = 0; i < TASKS; i++) {
            tasks[i] = new Task();
        }
        for (int i = 0; i < PORTS; i++) {
            ports[i] = new Port();
        }
        for (int i = 0; i < MODES; i++) {
            modes[i] = new Mode();
        }
        for (int i = 0; i < ACTUATORS; i++) {
            actuators[i] = new Actuator();
        }
        Arrays.fill(sensorPorts, NONE);
    }

    // ---- building ----

    public void task(int task, int budget)
            throws IndexOutOfBoundsException, IllegalArgumentException, IllegalStateException {
        checkIndex(task, TASKS);
        checkArgument(budget >= 1 && budget <= MOST_BUDGET);
        checkBuilding();
        tasks[task].budget = budget;
    }

    public int code(int task, int word)
            throws IndexOutOfBoundsException, IllegalArgumentException, IllegalStateException {
        checkIndex(task, TASKS);
        checkArgument(tasks[task].wordCount < WORDS);
        checkBuilding();
        return tasks[task].addWord(word);
    }

    public void port(int port, int least, int greatest, int value)
            throws IndexOutOfBoundsException, IllegalArgumentException, IllegalStateException {
        checkIndex(port, PORTS);
        checkArgument(least <= value && value <= greatest);
        checkBuilding();
        ports[port].least = least;
        ports[port].greatest = greatest;
        ports[port].value = value;
    }

    public void wire(int task, int slot, int port, int way)
            throws IndexOutOfBoundsException, IllegalArgumentException, IllegalStateException {
        checkIndex(task, TASKS);
        checkIndex(slot, SLOTS);
        checkIndex(port, PORTS);
        checkArgument(way == NONE || way == IN || way == OUT);
        checkBuilding();
        tasks[task].slots[slot].connect(way, port, ports[port].value);
    }

    public void mode(int mode, int period)
            throws IndexOutOfBoundsException, IllegalArgumentException, IllegalStateException {
        checkIndex(mode, MODES);
        checkArgument(period >= 0 && period <= MOST_PERIOD);
        checkBuilding();
        modes[mode].period = period;
    }

    public void use(int mode, int task, int often)
            throws IndexOutOfBoundsException, IllegalArgumentException, IllegalStateException {
        checkIndex(mode, MODES);
        checkIndex(task, TASKS);
        checkArgument(often >= 0 && often <= MOST_OFTEN);
        checkBuilding();
        modes[mode].often[task] = often;
    }

    public int guard(int mode, int port, int how, int value, int to)
            throws IndexOutOfBoundsException, IllegalArgumentException, IllegalStateException {
        checkIndex(mode, MODES);
        checkIndex(port, PORTS);
        checkIndex(to, MODES);
        checkArgument(Guard.isHow(how) && modes[mode].guardCount < GUARDS);
        checkBuilding();
        return modes[mode].addGuard(port, how, value, to);
    }

    public void sense(int sensor, int port) throws IndexOutOfBoundsException, IllegalStateException {
        checkIndex(sensor, SENSORS);
        checkBinding(port);
        checkBuilding();
        sensorPorts[sensor] = port;
    }

    public void actuate(int actuator, int port) throws IndexOutOfBoundsException, IllegalStateException {
        checkIndex(actuator, ACTUATORS);
        checkBinding(port);
        checkBuilding();
        actuators[actuator].port = port;
    }

    // ---- running ----

    public int start() throws IllegalStateException {
        checkBuilding();
        int fault = look.findFault(tasks, modes, sensorPorts);
        if (fault == 0) {
            running = true;
            passInstant();
        }
        return fault;
    }

    public void sensor(int sensor, int value) throws IndexOutOfBoundsException {
        checkIndex(sensor, SENSORS);
        sensorValues[sensor] = value;
    }

    public boolean pick(int task) throws IndexOutOfBoundsException {
        checkIndex(task, TASKS);
        boolean open = tasks[task].isOpen();
        if (open) {
            tasks[task].takeStep();
        }
        return open;
    }

    public int step(int n) throws IllegalArgumentException, IllegalStateException {
        checkArgument(n >= 0 && n <= MOST_STEPS);
        checkRunning();
        for (int taken = 0; taken < n; taken++) {
            int first = findMostUrgent();
            if (first == NONE) {
                return taken;
            }
            tasks[first].takeStep();
        }
        return n;
    }

    public int advance() throws IllegalStateException {
        checkRunning();
        checkTimeMayGoOn();
        now++;
        passInstant();
        return now;
    }

    // ---- asking ----

    public int value(int port) throws IndexOutOfBoundsException {
        checkIndex(port, PORTS);
        return ports[port].value;
    }

    public int actuator(int actuator, int what) {
        if (!isIndex(actuator, ACTUATORS)) {
            return NONE;
        }
        switch (what) {
            case 0:
                return actuators[actuator].value;
            case 1:
                return actuators[actuator].change;
            default:
                return NONE;
        }
    }

    public int about(int what) {
        switch (what) {
            case 0:
                return running ? now : NONE;
            case 1:
                return running ? current : NONE;
            case 2:
                return running ? began : NONE;
            case 3:
                return events.count;
            case 4:
                return countOpenJobs();
            default:
                return NONE;
        }
    }

    public int job(int task, int what) {
        return isIndex(task, TASKS) ? tasks[task].tell(what) : NONE;
    }

    public int event(int i, int what) {
        return events.tell(i, what);
    }

    // ---- what is refused ----

    private static boolean isIndex(int i, int count) {
        return i >= 0 && i < count;
    }

    private static void checkIndex(int i, int count) {
        if (!isIndex(i, count)) {
            throw new IndexOutOfBoundsException("there is none of that number");
        }
    }

    private static void checkBinding(int port) {
        if (port != NONE) {
            checkIndex(port, PORTS);
        }
    }

    private static void checkArgument(boolean right) {
        if (!right) {
            throw new IllegalArgumentException("an argument is beyond its limits");
        }
    }

    private void checkBuilding() {
        if (running) {
            throw new IllegalStateException("the program runs already");
        }
    }

    private void checkRunning() {
        if (!running) {
            throw new IllegalStateException("nothing runs yet");
        }
    }

    private void checkTimeMayGoOn() {
        if (now >= LAST_TIME) {
            throw new IllegalStateException("time has come to its end");
        }
        for (int i = 0; i < TASKS; i++) {
            if (tasks[i].isOpen() && tasks[i].due == now + 1) {
                throw new IllegalStateException("a job that is to be published is not done");
            }
        }
    }

    // ---- an instant ----

    /** The order of the five is the document's: each sees what those before it have changed. */
    private void passInstant() {
        publishJobs();
        moveActuators();
        readSensors();
        endPeriod();
        releaseJobs();
    }

    private void publishJobs() {
        for (int i = 0; i < TASKS; i++) {
            if (tasks[i].due == now) {
                publishSlots(tasks[i]);
                tasks[i].dropJob();
            }
        }
    }

    private void publishSlots(Task task) {
        for (int i = 0; i < SLOTS; i++) {
            Slot slot = task.slots[i];
            if (slot.way == OUT) {
                Port port = ports[slot.port];
                port.take(slot.content);
                events.add(now, slot.port, port.value, task.overran);
            }
        }
    }

    private void moveActuators() {
        for (int i = 0; i < ACTUATORS; i++) {
            Actuator actuator = actuators[i];
            if (actuator.port != NONE) {
                actuator.follow(ports[actuator.port].value, now);
            }
        }
    }

    private void readSensors() {
        for (int i = 0; i < SENSORS; i++) {
            if (sensorPorts[i] != NONE) {
                ports[sensorPorts[i]].take(sensorValues[i]);
            }
        }
    }

    private void endPeriod() {
        if (now - began == modes[current].period) {
            int next = modes[current].chooseNext(ports);
            current = next == NONE ? current : next;
            began = now;
        }
    }

    private void releaseJobs() {
        for (int i = 0; i < TASKS; i++) {
            if (modes[current].releases(i, now - began)) {
                tasks[i].release(now, now + modes[current].interval(i), ports);
            }
        }
    }

    private int findMostUrgent() {
        int first = NONE;
        for (int i = 0; i < TASKS; i++) {
            if (tasks[i].isOpen() && (first == NONE || tasks[i].due < tasks[first].due)) {
                first = i;
            }
        }
        return first;
    }

    private int countOpenJobs() {
        int open = 0;
        for (int i = 0; i < TASKS; i++) {
            if (tasks[i].isOpen()) {
                open++;
            }
        }
        return open;
    }

    // ---- what a program is built of ----

    /** A word of code: its lowest 6 bits say what is done, the others are a number with its sign. */
    private static final class Word {
        static final int END = 0;
        static final int PUSH = 1;
        static final int GET = 2;
        static final int SET = 3;
        static final int ADD = 4;
        static final int SUB = 5;
        static final int MUL = 6;
        static final int DIV = 7;
        static final int LESS = 8;
        static final int SAME = 9;
        static final int JUMP = 10;
        static final int SKIP = 11;
        static final int DUP = 12;
        static final int SWAP = 13;
        static final int DROP = 14;
        static final int LOAD = 15;
        static final int STORE = 16;

        private static final int KINDS = 17;
        private static final int[] TAKES = {0, 0, 0, 1, 2, 2, 2, 2, 2, 2, 0, 1, 1, 2, 1, 0, 1};
        private static final int[] LEAVES = {0, 1, 1, 0, 1, 1, 1, 1, 1, 1, 0, 0, 2, 2, 0, 1, 0};

        static int what(int word) {
            return word & 63;
        }

        static int number(int word) {
            return word >> 6;
        }

        /** A word to jump to is not looked at here: whether it is there hangs on the whole code. */
        static boolean isTold(int what, int n) {
            switch (what) {
                case PUSH:
                case JUMP:
                case SKIP:
                    return true;
                case GET:
                case SET:
                    return isIndex(n, SLOTS);
                case LOAD:
                case STORE:
                    return isIndex(n, LOCALS);
                default:
                    return isIndex(what, KINDS) && n == 0;
            }
        }

        static int takes(int what) {
            return isIndex(what, KINDS) ? TAKES[what] : 0;
        }

        static int leaves(int what) {
            return isIndex(what, KINDS) ? LEAVES[what] : 0;
        }
    }

    /** A value that never leaves its range. */
    private static final class Port {
        int least;
        int greatest;
        int value;

        void take(int wanted) {
            value = Math.max(least, Math.min(greatest, wanted));
        }
    }

    /** One end of a task: what it has latched (IN) or holds for its port (OUT). */
    private static final class Slot {
        int way = NONE;
        int port;
        int content;

        void connect(int newWay, int newPort, int portValue) {
            way = newWay;
            port = newPort;
            content = newWay == OUT ? portValue : 0;
        }
    }

    private static final class Actuator {
        int port = NONE;
        int value;
        int change;

        void follow(int portValue, int time) {
            if (value != portValue) {
                value = portValue;
                change = time;
            }
        }
    }

    private static final class Guard {
        int port;
        int how;
        int value;
        int to;

        static boolean isHow(int how) {
            return how >= 0 && how <= 5;
        }

        boolean isTrue(int portValue) {
            switch (how) {
                case 0:
                    return portValue < value;
                case 1:
                    return portValue <= value;
                case 2:
                    return portValue == value;
                case 3:
                    return portValue != value;
                case 4:
                    return portValue >= value;
                default:
                    return portValue > value;
            }
        }
    }

    private static final class Mode {
        int period;
        int guardCount;
        final int[] often = new int[TASKS];
        final Guard[] guards = new Guard[GUARDS];

        Mode() {
            for (int i = 0; i < GUARDS; i++) {
                guards[i] = new Guard();
            }
        }

        /** Refuses more than there is room for; answers how many there are. */
        int addGuard(int port, int how, int value, int to) {
            if (guardCount < GUARDS) {
                Guard guard = guards[guardCount];
                guard.port = port;
                guard.how = how;
                guard.value = value;
                guard.to = to;
                guardCount++;
            }
            return guardCount;
        }

        boolean isNone() {
            return period == 0;
        }

        boolean uses(int task) {
            return period > 0 && often[task] > 0;
        }

        /** The time from one release of a task to the next; 0 if it is not used. */
        int interval(int task) {
            return uses(task) ? period / often[task] : 0;
        }

        boolean releases(int task, int sinceBegin) {
            int interval = interval(task);
            return interval > 0 && sinceBegin % interval == 0;
        }

        int chooseNext(Port[] ports) {
            for (int i = 0; i < guardCount; i++) {
                if (guards[i].isTrue(ports[guards[i].port].value)) {
                    return guards[i].to;
                }
            }
            return NONE;
        }
    }

    /** The stack of a job. Code that was looked at never goes beyond its ends. */
    private static final class Stack {
        private final int[] values = new int[STACK];
        int depth;

        void push(int value) {
            if (depth < STACK) {
                values[depth] = value;
                depth++;
            }
        }

        int pop() {
            if (depth == 0) {
                return 0;
            }
            depth--;
            return values[depth];
        }

        int top() {
            return depth == 0 ? 0 : values[depth - 1];
        }
    }

    /** A task, and its job if it has one (then due is not NONE). */
    private static final class Task {
        int budget = 1;
        int wordCount;
        final Slot[] slots = new Slot[SLOTS];
        int due = NONE;
        boolean overran;
        private final int[] words = new int[WORDS];
        private final int[] locals = new int[LOCALS];
        private final Stack stack = new Stack();
        private int released = NONE;
        private int stepsLeft;
        private int next;

        Task() {
            for (int i = 0; i < SLOTS; i++) {
                slots[i] = new Slot();
            }
        }

        /** Refuses more than there is room for; answers how many there are. */
        int addWord(int word) {
            if (wordCount < WORDS) {
                words[wordCount] = word;
                wordCount++;
            }
            return wordCount;
        }

        int wordAt(int i) {
            return isIndex(i, wordCount) ? words[i] : Word.END;
        }

        /** A budget is at least 1, so only a job that is done has no steps left. */
        boolean isOpen() {
            return stepsLeft > 0;
        }

        void release(int time, int end, Port[] ports) {
            released = time;
            due = end;
            stepsLeft = budget;
            for (int i = 0; i < SLOTS; i++) {
                if (slots[i].way == IN) {
                    slots[i].content = ports[slots[i].port].value;
                }
            }
        }

        /** Leaves word 0 and an empty stack, as a new task has them, for the job that comes. */
        void dropJob() {
            released = NONE;
            due = NONE;
            next = 0;
            stack.depth = 0;
            overran = false;
        }

        void takeStep() {
            int word = wordAt(next);
            next++;
            stepsLeft--;
            carryOut(word);
            if (Word.what(word) == Word.END) {
                stepsLeft = 0;
            } else if (stepsLeft == 0) {
                overran = true;
            }
        }

        private void carryOut(int word) {
            int n = Word.number(word);
            switch (Word.what(word)) {
                case Word.END:
                    break;
                case Word.PUSH:
                    stack.push(n);
                    break;
                case Word.GET:
                    stack.push(isIndex(n, SLOTS) ? slots[n].content : 0);
                    break;
                case Word.SET:
                    setSlot(n, stack.pop());
                    break;
                case Word.JUMP:
                    next = n;
                    break;
                case Word.SKIP:
                    next = stack.pop() == 0 ? n : next;
                    break;
                case Word.DUP:
                    stack.push(stack.top());
                    break;
                case Word.SWAP:
                    swapTop();
                    break;
                case Word.DROP:
                    stack.pop();
                    break;
                case Word.LOAD:
                    stack.push(isIndex(n, LOCALS) ? locals[n] : 0);
                    break;
                case Word.STORE:
                    setLocal(n, stack.pop());
                    break;
                default:
                    combineTop(Word.what(word));
                    break;
            }
        }

        private void setSlot(int n, int value) {
            if (isIndex(n, SLOTS)) {
                slots[n].content = value;
            }
        }

        private void setLocal(int n, int value) {
            if (isIndex(n, LOCALS)) {
                locals[n] = value;
            }
        }

        private void swapTop() {
            int upper = stack.pop();
            int lower = stack.pop();
            stack.push(upper);
            stack.push(lower);
        }

        private void combineTop(int what) {
            int right = stack.pop();
            int left = stack.pop();
            stack.push(combine(what, left, right));
        }

        private static int combine(int what, int left, int right) {
            switch (what) {
                case Word.ADD:
                    return left + right;
                case Word.SUB:
                    return left - right;
                case Word.MUL:
                    return left * right;
                case Word.DIV:
                    return right == 0 ? 0 : left / right;
                case Word.LESS:
                    return left < right ? 1 : 0;
                case Word.SAME:
                default:
                    return left == right ? 1 : 0;
            }
        }

        int tell(int what) {
            if (what >= 6 && what <= 9) {
                return locals[what - 6];
            }
            if (what >= 11 && what <= 16) {
                return slots[what - 11].content;
            }
            switch (what) {
                case 0:
                    return stepsLeft;
                case 1:
                    return released;
                case 2:
                    return due;
                case 3:
                    return next;
                case 4:
                    return stack.depth;
                case 5:
                    return stack.top();
                case 10:
                    return overran ? 1 : 0;
                default:
                    return NONE;
            }
        }
    }

    /** Counts all events, keeps the first ones. */
    private static final class EventLog {
        private static final int WIDTH = 4;
        private final int[] rows = new int[EVENTS * WIDTH];
        int count;

        void add(int time, int port, int value, boolean overran) {
            if (count < EVENTS) {
                int at = count * WIDTH;
                rows[at] = time;
                rows[at + 1] = port;
                rows[at + 2] = value;
                rows[at + 3] = overran ? 1 : 0;
            }
            count++;
        }

        int tell(int i, int what) {
            boolean kept = isIndex(i, Math.min(count, EVENTS));
            return kept && isIndex(what, WIDTH) ? rows[i * WIDTH + what] : NONE;
        }
    }

    // ---- the look at a program ----

    /** Goes every way through a task's code; of the stack only the depth matters. */
    private static final class CodeLook {
        private final int[] depths = new int[WORDS];
        private final int[] reached = new int[WORDS];
        private int reachedCount;

        boolean isSound(Task task) {
            Arrays.fill(depths, NONE);
            reachedCount = 0;
            boolean sound = comeTo(task, 0, 0);
            // Each word is reached once at most, so the row that grows here ends with the code.
            for (int i = 0; i < WORDS && i < reachedCount && sound; i++) {
                sound = goOn(task, reached[i]);
            }
            return sound;
        }

        /** Of the words that isSound has just come to: whether they GET from IN and SET OUT slots. */
        boolean isWired(Task task) {
            boolean wired = true;
            for (int i = 0; i < reachedCount && wired; i++) {
                wired = isWordWired(task, task.wordAt(reached[i]));
            }
            return wired;
        }

        private boolean goOn(Task task, int at) {
            int what = Word.what(task.wordAt(at));
            int n = Word.number(task.wordAt(at));
            if (!Word.isTold(what, n) || depths[at] < Word.takes(what)) {
                return false;
            }
            int depth = depths[at] - Word.takes(what) + Word.leaves(what);
            switch (what) {
                case Word.END:
                    return true;
                case Word.JUMP:
                    return comeTo(task, n, depth);
                case Word.SKIP:
                    return comeTo(task, n, depth) && comeTo(task, at + 1, depth);
                default:
                    return comeTo(task, at + 1, depth);
            }
        }

        private boolean comeTo(Task task, int at, int depth) {
            if (!isIndex(at, task.wordCount) || depth > STACK) {
                return false;
            }
            if (depths[at] != NONE) {
                return depths[at] == depth;
            }
            depths[at] = depth;
            reached[reachedCount] = at;
            reachedCount++;
            return true;
        }

        private static boolean isWordWired(Task task, int word) {
            int n = Word.number(word);
            switch (Word.what(word)) {
                case Word.GET:
                    return isIndex(n, SLOTS) && task.slots[n].way == IN;
                case Word.SET:
                    return isIndex(n, SLOTS) && task.slots[n].way == OUT;
                default:
                    return true;
            }
        }
    }

    /** Looks for the faults in their order; each search answers a task or a mode, or NONE. */
    private static final class ProgramLook {
        private final CodeLook codeLook = new CodeLook();

        int findFault(Task[] tasks, Mode[] modes, int[] sensorPorts) {
            int kind = 1;
            int where = findBrokenCode(tasks, modes);
            if (where == NONE) {
                kind = 2;
                where = findWrongWire(tasks, modes);
            }
            if (where == NONE) {
                kind = 3;
                where = findUnevenMode(modes);
            }
            if (where == NONE) {
                kind = 4;
                where = findSharedPort(tasks, modes, sensorPorts);
            }
            if (where == NONE) {
                kind = 5;
                where = findLostGuard(modes);
            }
            if (where == NONE) {
                kind = 6;
                where = findOverload(tasks, modes);
            }
            return where == NONE ? 0 : 100 * kind + where;
        }

        private int findBrokenCode(Task[] tasks, Mode[] modes) {
            for (int i = 0; i < TASKS; i++) {
                if (isUsed(modes, i) && !codeLook.isSound(tasks[i])) {
                    return i;
                }
            }
            return NONE;
        }

        private int findWrongWire(Task[] tasks, Mode[] modes) {
            for (int i = 0; i < TASKS; i++) {
                if (isUsed(modes, i) && codeLook.isSound(tasks[i]) && !codeLook.isWired(tasks[i])) {
                    return i;
                }
            }
            return NONE;
        }

        private static boolean isUsed(Mode[] modes, int task) {
            for (int i = 0; i < MODES; i++) {
                if (modes[i].uses(task)) {
                    return true;
                }
            }
            return false;
        }

        private static int findUnevenMode(Mode[] modes) {
            if (modes[0].isNone()) {
                return 0;
            }
            for (int i = 0; i < MODES; i++) {
                if (isUneven(modes[i])) {
                    return i;
                }
            }
            return NONE;
        }

        private static boolean isUneven(Mode mode) {
            for (int i = 0; i < TASKS; i++) {
                if (mode.uses(i) && mode.interval(i) * mode.often[i] != mode.period) {
                    return true;
                }
            }
            return false;
        }

        /** Ports are bits here: 16 of them fit into an int. */
        private static int findSharedPort(Task[] tasks, Mode[] modes, int[] sensorPorts) {
            int sensed = 0;
            for (int i = 0; i < SENSORS; i++) {
                int bit = sensorPorts[i] == NONE ? 0 : 1 << sensorPorts[i];
                if ((sensed & bit) != 0) {
                    return 0;
                }
                sensed |= bit;
            }
            for (int i = 0; i < MODES; i++) {
                if (sharesPort(tasks, modes[i], sensed)) {
                    return i;
                }
            }
            return NONE;
        }

        private static boolean sharesPort(Task[] tasks, Mode mode, int sensed) {
            int taken = sensed;
            for (int i = 0; i < TASKS * SLOTS; i++) {
                Slot slot = tasks[i / SLOTS].slots[i % SLOTS];
                int bit = mode.uses(i / SLOTS) && slot.way == OUT ? 1 << slot.port : 0;
                if ((taken & bit) != 0) {
                    return true;
                }
                taken |= bit;
            }
            return false;
        }

        private static int findLostGuard(Mode[] modes) {
            for (int i = 0; i < MODES; i++) {
                if (!modes[i].isNone() && losesItsWay(modes, modes[i])) {
                    return i;
                }
            }
            return NONE;
        }

        private static boolean losesItsWay(Mode[] modes, Mode mode) {
            for (int i = 0; i < mode.guardCount; i++) {
                if (modes[mode.guards[i].to].isNone()) {
                    return true;
                }
            }
            return false;
        }

        private static int findOverload(Task[] tasks, Mode[] modes) {
            for (int i = 0; i < MODES; i++) {
                if (isOverloaded(tasks, modes[i])) {
                    return i;
                }
            }
            return NONE;
        }

        /**
         * The whole period tells for every part of it: a part holds at most its share of each task's
         * jobs, since these are of one length and fill the period.
         */
        private static boolean isOverloaded(Task[] tasks, Mode mode) {
            int asked = 0;
            for (int i = 0; i < TASKS; i++) {
                asked += mode.uses(i) ? mode.often[i] * tasks[i].budget : 0;
            }
            return asked > STEPS_A_TIME * mode.period;
        }
    }
}
