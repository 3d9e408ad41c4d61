/** Promises 12 to 20: instants, steps, modes, sensors, actuators and events. */
public final class RunTest {
    public static void main(String[] args) {
        timeZero();
        sensorsAreReadAtInstants();
        sensorsBeyondTheRange();
        picksAnyJob();
        stepsTheMostUrgent();
        stepsWithinLimits();
        timeWaitsForJobs();
        publishesByTasksAndSlots();
        publishesWhatIsHeld();
        overrunsAreToldInEvents();
        actuatorsFollow();
        actuatorsBeforeSensors();
        guardsOfEachKind();
        guardsInTheirOrder();
        guardsThatAreNot();
        guardsAtTheEndOfThePeriod();
        guardsSeeWhatIsNew();
        latchesBehindPublishing();
        modesReleaseTheirTasks();
        jobsThatAreGone();
        timeHasAnEnd();
        eventsBeyondThoseKept();
        valuesOfPorts();
        asksBeyond();
        Checks.end();
    }

    /** Task t counts in its local 0 and publishes at that port, in slot 0, what it has counted. */
    private static void counter(PeriodKernel kernel, int task, int port, int by) {
        Checks.code(kernel, task, Checks.word(Checks.LOAD, 0), Checks.word(Checks.PUSH, by), Checks.ADD, Checks.DUP,
                Checks.word(Checks.STORE, 0), Checks.word(Checks.SET, 0), Checks.END);
        kernel.task(task, 7);
        kernel.port(port, -1000, 1000, 0);
        kernel.wire(task, 0, port, Checks.OUT);
    }

    private static void timeZero() {
        PeriodKernel kernel = Checks.single(4, 3, Checks.END);
        kernel.port(2, 0, 9, 6);
        kernel.wire(0, 0, 2, Checks.OUT);
        kernel.wire(0, 1, 3, Checks.IN);
        kernel.port(3, 0, 9, 1);
        kernel.sense(4, 3);
        kernel.sensor(4, 8);
        kernel.actuate(5, 2);
        kernel.guard(0, 2, 2, 6, 1);
        kernel.mode(1, 1);
        Checks.begin(kernel);
        Checks.dueAbout("time 0", kernel, 0, 0, 0, 0, 1, Checks.NONE);
        Checks.dueJob("time 0", kernel, 0, 0, 3, 0, 4);
        Checks.dueJob("time 0", kernel, 0, 11, 6, 8);
        Checks.due("its value", kernel.actuator(5, 0), 6);
        Checks.due("its CHANGE", kernel.actuator(5, 1), 0);
    }

    private static void sensorsAreReadAtInstants() {
        PeriodKernel kernel = Checks.single(4, 3, Checks.END);
        kernel.port(0, -50, 50, 7);
        kernel.sense(7, 0);
        Checks.refused("sensor 8", Checks.INDEX, () -> kernel.sensor(8, 0));
        Checks.refused("sensor -1", Checks.INDEX, () -> kernel.sensor(-1, 0));
        kernel.sensor(7, 20);
        Checks.due("before the start", kernel.value(0), 7);
        Checks.begin(kernel);
        Checks.due("at time 0", kernel.value(0), 20);
        kernel.sensor(7, 30);
        kernel.sensor(7, 31);
        Checks.due("between instants", kernel.value(0), 20);
        kernel.advance();
        Checks.due("at time 1", kernel.value(0), 31);
        kernel.advance();
        Checks.due("it stays", kernel.value(0), 31);
        Checks.due("that is no event", kernel.about(3), 0);
    }

    private static void sensorsBeyondTheRange() {
        PeriodKernel kernel = Checks.single(4, 3, Checks.END);
        kernel.port(0, -5, 5, 2);
        kernel.sense(0, 0);
        kernel.sensor(0, Integer.MAX_VALUE);
        Checks.begin(kernel);
        Checks.due("above", kernel.value(0), 5);
        kernel.sensor(0, Integer.MIN_VALUE);
        kernel.advance();
        Checks.due("below", kernel.value(0), -5);
        PeriodKernel unset = Checks.single(4, 3, Checks.END);
        unset.port(0, 3, 5, 4);
        unset.sense(0, 0);
        Checks.begin(unset);
        Checks.due("0 at first, at the nearer end", unset.value(0), 3);
    }

    private static PeriodKernel threeJobs() {
        PeriodKernel kernel = new PeriodKernel();
        kernel.mode(0, 6);
        for (int i = 1; i <= 3; i++) {
            kernel.task(i, 4);
            kernel.use(0, i, i);
            Checks.code(kernel, i, Checks.word(Checks.JUMP, 1), Checks.word(Checks.JUMP, 2), Checks.END);
        }
        kernel.use(0, 4, 3);
        Checks.code(kernel, 4, Checks.END);
        Checks.begin(kernel);
        return kernel;
    }

    private static void picksAnyJob() {
        PeriodKernel kernel = threeJobs();
        Checks.due("jobs not done", kernel.about(4), 4);
        for (int i = 0; i < 3; i++) {
            Checks.due("pick(1)", kernel.pick(1), true);
        }
        Checks.due("pick(1), done", kernel.pick(1), false);
        Checks.due("jobs not done", kernel.about(4), 3);
        Checks.due("pick(0), none", kernel.pick(0), false);
        Checks.due("the others wait", kernel.job(3, 0), 4);
    }

    private static void stepsTheMostUrgent() {
        PeriodKernel kernel = threeJobs();
        Checks.due("step(2)", kernel.step(2), 2);
        Checks.due("task 3 goes first", kernel.job(3, 0), 2);
        Checks.due("step(1)", kernel.step(1), 1);
        Checks.due("it is done", kernel.job(3, 0), 0);
        Checks.due("step(1)", kernel.step(1), 1);
        Checks.due("then task 4, of the same time", kernel.job(4, 0), 0);
        Checks.due("not task 2", kernel.job(2, 0), 4);
        Checks.due("step(4)", kernel.step(4), 4);
        Checks.due("then task 2", kernel.job(2, 0), 0);
        Checks.due("then task 1", kernel.job(1, 0), 3);
        Checks.due("step(2000)", kernel.step(2000), 2);
        Checks.due("step(2000)", kernel.step(2000), 0);
        Checks.due("jobs not done", kernel.about(4), 0);
    }

    private static void stepsWithinLimits() {
        PeriodKernel kernel = Checks.single(60, 3, Checks.END);
        for (int n : new int[] {-1, 2001, Integer.MIN_VALUE, Integer.MAX_VALUE}) {
            Checks.refused("step(" + n + "), nothing runs", Checks.ARGUMENT, () -> kernel.step(n));
        }
        Checks.refused("step(0), nothing runs", Checks.STATE, () -> kernel.step(0));
        Checks.refused("step(2000), nothing runs", Checks.STATE, () -> kernel.step(2000));
        Checks.begin(kernel);
        Checks.refused("step(2001)", Checks.ARGUMENT, () -> kernel.step(2001));
        Checks.refused("step(-1)", Checks.ARGUMENT, () -> kernel.step(-1));
        Checks.due("step(0)", kernel.step(0), 0);
        Checks.due("steps left", kernel.job(0, 0), 3);
        Checks.due("step(2000)", kernel.step(2000), 1);
    }

    private static void timeWaitsForJobs() {
        PeriodKernel kernel = Checks.single(2, 3, Checks.word(Checks.JUMP, 1), Checks.END);
        kernel.port(0, 0, 9, 0);
        kernel.sense(0, 0);
        Checks.refused("nothing runs", Checks.STATE, kernel::advance);
        Checks.begin(kernel);
        kernel.sensor(0, 5);
        Checks.due("advance()", kernel.advance(), 1);
        kernel.sensor(0, 6);
        Checks.refused("its job is not begun", Checks.STATE, kernel::advance);
        kernel.pick(0);
        Checks.refused("its job is not done", Checks.STATE, kernel::advance);
        Checks.dueAbout("time stands", kernel, 1, 0, 0, 0, 1);
        Checks.due("so does the port", kernel.value(0), 5);
        kernel.pick(0);
        Checks.due("advance()", kernel.advance(), 2);
        Checks.dueAbout("time goes on", kernel, 2, 0, 2, 0, 1);
        Checks.dueJob("a new job", kernel, 0, 0, 3, 2, 4, 0);
    }

    private static void publishesByTasksAndSlots() {
        PeriodKernel kernel = new PeriodKernel();
        kernel.mode(0, 2);
        for (int task : new int[] {6, 1}) {
            kernel.use(0, task, 1);
            Checks.code(kernel, task, Checks.END);
        }
        for (int i = 0; i < 16; i++) {
            kernel.port(i, 0, 20, i);
        }
        kernel.wire(6, 0, 9, Checks.OUT);
        kernel.wire(1, 5, 3, Checks.OUT);
        kernel.wire(1, 2, 8, Checks.OUT);
        kernel.wire(1, 3, 1, Checks.IN);
        Checks.begin(kernel);
        Checks.pass(kernel, 2);
        Checks.due("events", kernel.about(3), 3);
        Checks.dueEvent("task 1, slot 2", kernel, 0, 2, 8, 8, 0);
        Checks.dueEvent("task 1, slot 5", kernel, 1, 2, 3, 3, 0);
        Checks.dueEvent("task 6", kernel, 2, 2, 9, 9, 0);
        Checks.dueEvent("no more", kernel, 3, Checks.NONE, Checks.NONE, Checks.NONE, Checks.NONE);
    }

    /** A slot that is set once goes on to be published, at the ends of the range too. */
    private static void publishesWhatIsHeld() {
        PeriodKernel kernel = Checks.single(1, 9, Checks.word(Checks.LOAD, 0), Checks.word(Checks.SKIP, 3), Checks.END,
                Checks.word(Checks.PUSH, 1), Checks.word(Checks.STORE, 0), Checks.word(Checks.PUSH, -77),
                Checks.word(Checks.SET, 0), Checks.END);
        kernel.port(0, -30, 30, 12);
        kernel.wire(0, 0, 0, Checks.OUT);
        kernel.port(1, 0, 90, 90);
        kernel.wire(0, 1, 1, Checks.OUT);
        kernel.port(1, 0, 40, 3);
        Checks.begin(kernel);
        Checks.pass(kernel, 2);
        Checks.dueEvent("set", kernel, 0, 1, 0, -30, 0);
        Checks.dueEvent("held since it was wired", kernel, 1, 1, 1, 40, 0);
        Checks.dueEvent("set before", kernel, 2, 2, 0, -30, 0);
        Checks.dueEvent("held on", kernel, 3, 2, 1, 40, 0);
        Checks.dueJob("held as set", kernel, 0, 11, -77, 90);
        Checks.due("value(0)", kernel.value(0), -30);
        Checks.due("value(1)", kernel.value(1), 40);
    }

    private static void overrunsAreToldInEvents() {
        PeriodKernel kernel = Checks.single(1, 3, Checks.word(Checks.LOAD, 0), Checks.word(Checks.SKIP, 4),
                Checks.word(Checks.PUSH, 1), Checks.END, Checks.word(Checks.PUSH, 1), Checks.word(Checks.STORE, 0),
                Checks.END);
        kernel.port(0, 0, 9, 4);
        kernel.wire(0, 0, 0, Checks.OUT);
        kernel.task(0, 6);
        kernel.use(0, 1, 1);
        Checks.code(kernel, 1, Checks.word(Checks.JUMP, 0));
        kernel.task(1, 2);
        kernel.wire(1, 0, 1, Checks.OUT);
        Checks.begin(kernel);
        Checks.pass(kernel, 2);
        Checks.dueEvent("ended", kernel, 0, 1, 0, 4, 0);
        Checks.dueEvent("overran", kernel, 1, 1, 1, 0, 1);
        Checks.dueEvent("ended again", kernel, 2, 2, 0, 4, 0);
        Checks.dueEvent("overran again", kernel, 3, 2, 1, 0, 1);
        Checks.due("not yet, in its new job", kernel.job(1, 10), 0);
    }

    private static void actuatorsFollow() {
        PeriodKernel kernel = Checks.single(2, 9, Checks.word(Checks.GET, 0), Checks.word(Checks.SET, 1), Checks.END);
        kernel.port(0, 0, 99, 0);
        kernel.port(1, 0, 99, 25);
        kernel.wire(0, 0, 0, Checks.IN);
        kernel.wire(0, 1, 1, Checks.OUT);
        kernel.sense(0, 0);
        kernel.sensor(0, 25);
        kernel.actuate(3, 1);
        kernel.actuate(4, 2);
        Checks.begin(kernel);
        Checks.due("at time 0", kernel.actuator(3, 0), 25);
        Checks.pass(kernel, 2);
        Checks.due("no change at time 2", kernel.actuator(3, 1), 0);
        kernel.sensor(0, 60);
        Checks.pass(kernel, 2);
        Checks.due("latched at 2", kernel.actuator(3, 0), 25);
        Checks.pass(kernel, 1);
        Checks.due("not published at 5", kernel.actuator(3, 0), 25);
        Checks.pass(kernel, 1);
        Checks.due("published at 6", kernel.actuator(3, 0), 60);
        Checks.due("CHANGE at 6", kernel.actuator(3, 1), 6);
        Checks.pass(kernel, 3);
        Checks.due("CHANGE stays", kernel.actuator(3, 1), 6);
        Checks.due("one that does not move", kernel.actuator(4, 1), 0);
    }

    private static void actuatorsBeforeSensors() {
        PeriodKernel kernel = Checks.single(9, 9, Checks.END);
        kernel.port(0, 0, 99, 5);
        kernel.sense(0, 0);
        kernel.sensor(0, 50);
        kernel.actuate(0, 0);
        Checks.begin(kernel);
        Checks.due("at time 0", kernel.actuator(0, 0), 5);
        Checks.due("the port", kernel.value(0), 50);
        kernel.advance();
        Checks.due("at time 1", kernel.actuator(0, 0), 50);
        Checks.due("CHANGE", kernel.actuator(0, 1), 1);
    }

    private static void guardsOfEachKind() {
        int[][] want = {{1, 0, 0}, {1, 1, 0}, {0, 1, 0}, {1, 0, 1}, {0, 1, 1}, {0, 0, 1}};
        for (int how = 0; how <= 5; how++) {
            for (int is = -1; is <= 1; is++) {
                PeriodKernel kernel = Checks.single(1, 1, Checks.END);
                kernel.port(9, -5, 5, -3 + is);
                kernel.mode(1, 1);
                kernel.guard(0, 9, how, -3, 1);
                Checks.begin(kernel);
                Checks.due("not at time 0", kernel.about(1), 0);
                Checks.pass(kernel, 1);
                Checks.due("how " + how + " by " + is, kernel.about(1), want[how][is + 1]);
            }
        }
        PeriodKernel kernel = Checks.single(1, 1, Checks.END);
        kernel.port(0, Integer.MIN_VALUE, Integer.MAX_VALUE, Integer.MIN_VALUE);
        kernel.mode(1, 1);
        kernel.guard(0, 0, 0, Integer.MAX_VALUE, 1);
        Checks.begin(kernel);
        Checks.pass(kernel, 1);
        Checks.due("the least is below the greatest", kernel.about(1), 1);
    }

    private static void guardsInTheirOrder() {
        PeriodKernel kernel = Checks.single(1, 1, Checks.END);
        for (int i = 1; i <= 3; i++) {
            kernel.mode(i, i);
        }
        kernel.guard(0, 0, 3, 0, 1);
        kernel.guard(0, 0, 2, 0, 3);
        kernel.guard(0, 0, 2, 0, 2);
        kernel.guard(3, 0, 2, 0, 3);
        kernel.guard(3, 0, 2, 0, 0);
        Checks.begin(kernel);
        Checks.pass(kernel, 1);
        Checks.dueAbout("the first true one", kernel, 1, 3, 1);
        Checks.pass(kernel, 2);
        Checks.dueAbout("within its period", kernel, 3, 3, 1);
        Checks.pass(kernel, 1);
        Checks.dueAbout("to itself", kernel, 4, 3, 4);
    }

    /** Only the guards that were told count, whatever the ports' values are. */
    private static void guardsThatAreNot() {
        for (int count = 0; count <= 4; count++) {
            PeriodKernel kernel = Checks.single(1, 1, Checks.END);
            kernel.port(0, -9, 9, -9);
            kernel.mode(1, 1);
            for (int i = 0; i < count; i++) {
                kernel.guard(0, 0, 5, 0, 1);
            }
            kernel.guard(1, 0, 0, 0, 0);
            Checks.begin(kernel);
            Checks.pass(kernel, 1);
            Checks.dueAbout("with " + count + " guards", kernel, 1, 0, 1);
        }
    }

    private static void guardsAtTheEndOfThePeriod() {
        PeriodKernel kernel = Checks.single(3, 1, Checks.END);
        kernel.port(0, 0, 9, 0);
        kernel.sense(0, 0);
        kernel.mode(2, 2);
        kernel.guard(0, 0, 5, 4, 2);
        kernel.guard(2, 0, 0, 5, 0);
        Checks.begin(kernel);
        kernel.sensor(0, 5);
        Checks.pass(kernel, 2);
        Checks.dueAbout("true, but not at the end", kernel, 2, 0, 0);
        kernel.sensor(0, 1);
        Checks.pass(kernel, 1);
        Checks.dueAbout("at the end, but not true", kernel, 3, 0, 3);
        Checks.pass(kernel, 2);
        kernel.sensor(0, 6);
        Checks.pass(kernel, 1);
        Checks.dueAbout("true at the end", kernel, 6, 2, 6);
        Checks.dueJob("no job in mode 2", kernel, 0, 0, 0, Checks.NONE, Checks.NONE, 0, 0, 0);
        Checks.pass(kernel, 2);
        Checks.dueAbout("mode 2 stays", kernel, 8, 2, 8);
        kernel.sensor(0, 0);
        Checks.pass(kernel, 2);
        Checks.dueAbout("and goes back", kernel, 10, 0, 10);
        Checks.dueJob("with a job", kernel, 0, 0, 1, 10, 13);
    }

    /** What is published and sensed in an instant is there for its guards. */
    private static void guardsSeeWhatIsNew() {
        PeriodKernel kernel = new PeriodKernel();
        kernel.mode(0, 1);
        kernel.mode(1, 1);
        kernel.use(0, 0, 1);
        counter(kernel, 0, 0, 1);
        kernel.guard(0, 0, 2, 2, 1);
        Checks.begin(kernel);
        Checks.pass(kernel, 1);
        Checks.due("published 1", kernel.about(1), 0);
        Checks.pass(kernel, 1);
        Checks.due("published 2", kernel.about(1), 1);
        Checks.due("not released any more", kernel.job(0, 1), Checks.NONE);
        Checks.due("its local stays", kernel.job(0, 6), 2);
        Checks.due("its slot, too", kernel.job(0, 11), 2);
    }

    /** Of two tasks in a row, the second reads at an instant what the first has published in it. */
    private static void latchesBehindPublishing() {
        PeriodKernel kernel = new PeriodKernel();
        kernel.mode(0, 2);
        kernel.use(0, 1, 2);
        counter(kernel, 1, 0, 10);
        kernel.use(0, 0, 2);
        kernel.task(0, 5);
        Checks.code(kernel, 0, Checks.word(Checks.GET, 0), Checks.word(Checks.SET, 1), Checks.END);
        kernel.wire(0, 0, 0, Checks.IN);
        kernel.port(1, 0, 999, 0);
        kernel.wire(0, 1, 1, Checks.OUT);
        Checks.begin(kernel);
        Checks.pass(kernel, 1);
        Checks.due("published at 1", kernel.value(0), 10);
        Checks.due("latched at 1", kernel.job(0, 11), 10);
        Checks.due("of time 0", kernel.value(1), 0);
        Checks.pass(kernel, 1);
        Checks.due("of time 1", kernel.value(1), 10);
        Checks.due("published at 2", kernel.value(0), 20);
        Checks.dueEvent("the first task's", kernel, 2, 2, 1, 10, 0);
        Checks.dueEvent("the second's", kernel, 3, 2, 0, 20, 0);
    }

    private static void modesReleaseTheirTasks() {
        PeriodKernel kernel = new PeriodKernel();
        kernel.mode(0, 12);
        kernel.use(0, 2, 4);
        kernel.use(0, 5, 3);
        counter(kernel, 2, 0, 1);
        counter(kernel, 5, 1, -1);
        kernel.mode(1, 2);
        kernel.use(1, 5, 1);
        kernel.guard(0, 0, 4, 4, 1);
        Checks.begin(kernel);
        for (int time = 0; time < 12; time++) {
            Checks.due("task 2 released", kernel.job(2, 1), time / 3 * 3);
            Checks.due("task 2 published", kernel.job(2, 2), time / 3 * 3 + 3);
            Checks.due("task 5 released", kernel.job(5, 1), time / 4 * 4);
            Checks.due("task 5 published", kernel.job(5, 2), time / 4 * 4 + 4);
            Checks.pass(kernel, 1);
        }
        Checks.dueAbout("mode 1", kernel, 12, 1, 12, 7, 1);
        Checks.due("task 2 is used no more", kernel.job(2, 1), Checks.NONE);
        Checks.dueJob("task 5 in mode 1", kernel, 5, 0, 7, 12, 14);
        Checks.pass(kernel, 2);
        Checks.due("counted on", kernel.value(1), -4);
        Checks.due("left alone", kernel.value(0), 4);
    }

    /** A job that overran with a stack that is not empty leaves nothing of that behind. */
    private static void jobsThatAreGone() {
        PeriodKernel kernel = Checks.single(2, 3, Checks.word(Checks.PUSH, 4), Checks.word(Checks.PUSH, 5),
                Checks.word(Checks.JUMP, 3), Checks.word(Checks.JUMP, 2));
        kernel.wire(0, 2, 1, Checks.IN);
        kernel.port(1, 0, 9, 8);
        kernel.mode(1, 3);
        kernel.guard(0, 0, 2, 0, 1);
        kernel.guard(1, 0, 2, 0, 0);
        Checks.begin(kernel);
        kernel.step(2000);
        Checks.dueJob("done", kernel, 0, 0, 0, 0, 2, 3, 2, 5, 0, 0, 0, 0, 1);
        Checks.pass(kernel, 1);
        Checks.dueJob("still there", kernel, 0, 0, 0, 0, 2, 3, 2, 5, 0, 0, 0, 0, 1);
        Checks.pass(kernel, 1);
        Checks.dueJob("gone", kernel, 0, 0, 0, Checks.NONE, Checks.NONE, 0, 0, 0, 0, 0, 0, 0, 0);
        Checks.due("what was latched stays", kernel.job(0, 13), 8);
        Checks.due("pick(0)", kernel.pick(0), false);
        Checks.due("step(9)", kernel.step(9), 0);
        Checks.pass(kernel, 3);
        Checks.dueJob("a new one", kernel, 0, 0, 3, 5, 7, 0, 0, 0, 0, 0, 0, 0, 0);
    }

    private static void timeHasAnEnd() {
        PeriodKernel kernel = new PeriodKernel();
        kernel.mode(0, 7);
        Checks.begin(kernel);
        for (int i = 1; i < 1000000; i++) {
            kernel.advance();
        }
        Checks.due("the last time", kernel.advance(), 1000000);
        Checks.refused("one beyond", Checks.STATE, kernel::advance);
        Checks.dueAbout("time stands", kernel, 1000000, 0, 999999, 0, 0);
    }

    private static void eventsBeyondThoseKept() {
        PeriodKernel kernel = Checks.single(1, 1, Checks.END);
        for (int i = 0; i < 6; i++) {
            kernel.port(i, i, i, i);
            kernel.wire(0, i, i, Checks.OUT);
        }
        Checks.begin(kernel);
        Checks.pass(kernel, 51);
        Checks.due("all are counted", kernel.about(3), 306);
        Checks.dueEvent("the last that is kept", kernel, 299, 50, 5, 5, 0);
        Checks.dueEvent("one beyond", kernel, 300, Checks.NONE, Checks.NONE, Checks.NONE, Checks.NONE);
        Checks.dueEvent("the last of all", kernel, 305, Checks.NONE, Checks.NONE, Checks.NONE, Checks.NONE);
        Checks.dueEvent("the first", kernel, 0, 1, 0, 0, 0);
    }

    private static void valuesOfPorts() {
        PeriodKernel kernel = Checks.single(1, 1, Checks.END);
        kernel.port(15, 0, 9, 4);
        Checks.due("value(15)", kernel.value(15), 4);
        for (int port : new int[] {-1, 16, Integer.MIN_VALUE, Integer.MAX_VALUE}) {
            Checks.refused("value(" + port + ")", Checks.INDEX, () -> kernel.value(port));
        }
        Checks.begin(kernel);
        Checks.due("value(15) while it runs", kernel.value(15), 4);
        Checks.refused("value(16) while it runs", Checks.INDEX, () -> kernel.value(16));
    }

    private static void asksBeyond() {
        PeriodKernel kernel = Checks.single(1, 1, Checks.END);
        kernel.wire(0, 0, 0, Checks.OUT);
        kernel.actuate(0, 0);
        Checks.begin(kernel);
        Checks.pass(kernel, 1);
        for (int beyond : new int[] {-1, 1000, Integer.MIN_VALUE, Integer.MAX_VALUE}) {
            Checks.due("about(" + beyond + ")", kernel.about(beyond), Checks.NONE);
            Checks.due("event(0, " + beyond + ")", kernel.event(0, beyond), Checks.NONE);
            Checks.due("event(" + beyond + ", 0)", kernel.event(beyond, 0), Checks.NONE);
            Checks.due("actuator(0, " + beyond + ")", kernel.actuator(0, beyond), Checks.NONE);
            Checks.due("actuator(" + beyond + ", 0)", kernel.actuator(beyond, 0), Checks.NONE);
        }
        Checks.due("about(5)", kernel.about(5), Checks.NONE);
        Checks.due("event(0, 4)", kernel.event(0, 4), Checks.NONE);
        Checks.due("event(1, 0)", kernel.event(1, 0), Checks.NONE);
        Checks.due("actuator(0, 2)", kernel.actuator(0, 2), Checks.NONE);
        Checks.due("actuator(8, 0)", kernel.actuator(8, 0), Checks.NONE);
        Checks.due("actuator(8, 1)", kernel.actuator(8, 1), Checks.NONE);
    }
}
