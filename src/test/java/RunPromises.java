/** Promises 11 to 15: the methods that start a program and run it. */
final class RunPromises extends Checks {
    static void read(Book book) {
        book.promise("11: start");
        book.sentence("The program is LOOKED AT; without a fault it runs from now on: 0", RunPromises::startRunsIt);
        book.sentence("(and the instant of time 0 is)", RunPromises::startIsTheInstantOfTime0);
        book.sentence("Else 100 * the fault and the task or mode", RunPromises::startAnswersTheFault);
        book.sentence("it can be built on", RunPromises::behindAFaultItCanBeBuiltOn);
        book.promise("12: sensor");
        book.sentence("A sensor's value from now on (that the next instant reads)", RunPromises::sensorIsReadNext);
        book.sentence("at any time", RunPromises::sensorAtAnyTime);
        book.promise("13: pick");
        book.sentence("One step of a task's job", RunPromises::pickIsOneStep);
        book.sentence("false if it has none that is not done", RunPromises::pickIsFalseWithoutAnOpenJob);
        book.sentence("or nothing runs", RunPromises::pickIsFalseIfNothingRuns);
        readStep(book);
        readAdvance(book);
    }

    private static void readStep(Book book) {
        book.promise("14: step");
        book.sentence("At most n steps", RunPromises::stepIsAtMostNSteps);
        book.sentence("each of the job that is to be published first", RunPromises::stepTakesTheFirstPublished);
        book.sentence("(of several the lowest task)", RunPromises::stepTakesTheLowestTask);
        book.sentence("of those not done", RunPromises::stepLeavesOutThoseDone);
        book.sentence("how many", RunPromises::stepAnswersHowMany);
        book.sentence("IllegalArgumentException: n is not 0 .. 2000", RunPromises::stepRefusesOtherNumbers);
        book.sentence("IllegalStateException: nothing runs", RunPromises::stepIsRefusedIfNothingRuns);
    }

    private static void readAdvance(Book book) {
        book.promise("15: advance");
        book.sentence("Time goes on by one, with its instant: the time", RunPromises::advanceAnswersTheTime);
        book.sentence("IllegalStateException: nothing runs", RunPromises::advanceIsRefusedIfNothingRuns);
        book.sentence("a job that is to be published then is not done", RunPromises::advanceWaitsForJobs);
        book.sentence("or it would be above 1,000,000", RunPromises::advanceEndsAtAMillion);
    }

    private static void startRunsIt() {
        PeriodKernel kernel = single(2, 3, END);
        due("start()", kernel.start(), 0);
        dueAbout("it runs", kernel, 0, 0, 0, 0, 1);
        refused("start() again", STATE, kernel::start);
        due("step(1)", kernel.step(1), 1);
        due("advance()", kernel.advance(), 1);
        refused("start() later", STATE, kernel::start);
        due("it goes on", kernel.about(0), 1);
        PeriodKernel empty = new PeriodKernel();
        empty.mode(0, 60);
        due("start() of a mode alone", empty.start(), 0);
    }

    private static void startIsTheInstantOfTime0() {
        PeriodKernel kernel = single(2, 3, END);
        kernel.port(0, 0, 9, 4);
        kernel.port(1, 0, 9, 5);
        kernel.sense(0, 0);
        kernel.sensor(0, 8);
        kernel.actuate(0, 0);
        kernel.actuate(1, 1);
        kernel.wire(0, 0, 0, IN);
        kernel.wire(0, 1, 1, OUT);
        begin(kernel);
        due("(1) no event", kernel.about(3), 0);
        due("(2) an actuator", kernel.actuator(1, 0), 5);
        due("(2) an actuator, before its sensor", kernel.actuator(0, 0), 4);
        due("(3) a sensor", kernel.value(0), 8);
        due("(4) the mode", kernel.about(1), 0);
        dueJob("(5) a job", kernel, 0, 0, 3, 0, 2);
        dueJob("(5) latched behind its sensor", kernel, 0, 11, 8, 5);
    }

    private static void startAnswersTheFault() {
        PeriodKernel kernel = new PeriodKernel();
        kernel.mode(1, 5);
        kernel.use(1, 7, 2);
        kernel.use(1, 6, 1);
        code(kernel, 6, word(GET, 0), END);
        kernel.task(6, 101);
        kernel.wire(7, 0, 0, OUT);
        kernel.wire(7, 1, 0, OUT);
        kernel.guard(1, 0, 0, 0, 3);
        due("fault 1, before all others", kernel.start(), 107);
        kernel.code(7, END);
        due("fault 2", kernel.start(), 206);
        kernel.wire(6, 0, 1, IN);
        due("fault 3, mode 0", kernel.start(), 300);
        kernel.mode(0, 5);
        due("fault 3", kernel.start(), 301);
        kernel.use(1, 7, 1);
        due("fault 4", kernel.start(), 401);
        kernel.wire(7, 1, 2, OUT);
        due("fault 5", kernel.start(), 501);
        kernel.mode(3, 1);
        due("fault 6", kernel.start(), 601);
        kernel.task(6, 99);
        due("none", kernel.start(), 0);
    }

    private static void behindAFaultItCanBeBuiltOn() {
        PeriodKernel kernel = new PeriodKernel();
        due("a fault", kernel.start(), 300);
        due("the same fault again", kernel.start(), 300);
        dueAbout("nothing runs", kernel, NONE, NONE, NONE, 0, 0);
        kernel.mode(0, 4);
        kernel.use(0, 0, 1);
        due("no code", kernel.start(), 100);
        due("a word", kernel.code(0, word(GET, 0)), 1);
        due("no END", kernel.start(), 100);
        due("a second word", kernel.code(0, END), 2);
        due("not IN", kernel.start(), 200);
        kernel.port(0, 0, 9, 4);
        kernel.wire(0, 0, 0, IN);
        kernel.task(0, 81);
        kernel.sense(0, 0);
        kernel.sense(1, 0);
        kernel.sensor(0, 6);
        kernel.actuate(0, 0);
        due("two sensors", kernel.start(), 400);
        due("no sensor was read", kernel.value(0), 4);
        due("no actuator was moved", kernel.actuator(0, 0), 0);
        kernel.sense(1, NONE);
        due("a guard", kernel.guard(0, 0, 2, 9, 2), 1);
        due("to none", kernel.start(), 500);
        kernel.mode(2, 1);
        due("the budget", kernel.start(), 600);
        due("nothing was latched", kernel.job(0, 11), 0);
        kernel.task(0, 80);
        due("no fault", kernel.start(), 0);
        dueJob("its job", kernel, 0, 0, 80, 0, 4);
        due("latched", kernel.job(0, 11), 6);
    }

    private static void sensorIsReadNext() {
        PeriodKernel kernel = single(4, 1, END);
        kernel.port(0, LEAST, GREATEST, 7);
        kernel.sense(3, 0);
        begin(kernel);
        due("at time 0", kernel.value(0), 0);
        for (int value : new int[] {LEAST, -1, 1, GREATEST}) {
            int before = kernel.value(0);
            kernel.sensor(3, 99);
            kernel.sensor(3, value);
            due("not yet " + value, kernel.value(0), before);
            pass(kernel, 1);
            due("the last one told", kernel.value(0), value);
            pass(kernel, 1);
            due("from now on", kernel.value(0), value);
        }
        kernel.sensor(4, 5);
        pass(kernel, 1);
        due("another sensor", kernel.value(0), GREATEST);
    }

    private static void sensorAtAnyTime() {
        PeriodKernel kernel = new PeriodKernel();
        kernel.sensor(7, 5);
        due("start() with a fault", kernel.start(), 300);
        kernel.sensor(7, 6);
        kernel.mode(0, 2);
        kernel.port(0, 0, 9, 1);
        kernel.sense(7, 0);
        due("before it starts", kernel.value(0), 1);
        begin(kernel);
        due("told before it was bound", kernel.value(0), 6);
        kernel.sensor(7, 8);
        pass(kernel, 1);
        due("told while it runs", kernel.value(0), 8);
        for (int sensor : new int[] {LEAST, -1, 8, GREATEST}) {
            refused("sensor " + sensor, INDEX, () -> kernel.sensor(sensor, 1));
        }
    }

    /** Tasks 1, 2, 3 with 4 steps, published at 6, 3 and 2; task 4, with one, at 2. */
    private static PeriodKernel fourJobs() {
        PeriodKernel kernel = new PeriodKernel();
        kernel.mode(0, 6);
        for (int task = 1; task <= 3; task++) {
            kernel.task(task, 4);
            kernel.use(0, task, task);
            code(kernel, task, word(JUMP, 0));
        }
        kernel.use(0, 4, 3);
        kernel.code(4, END);
        begin(kernel);
        return kernel;
    }

    private static void dueLeft(String what, PeriodKernel kernel, int... left) {
        for (int i = 0; i < left.length; i++) {
            due(what + ": steps left of task " + (i + 1), kernel.job(i + 1, 0), left[i]);
        }
    }

    private static void pickIsOneStep() {
        PeriodKernel kernel = fourJobs();
        due("pick(1)", kernel.pick(1), true);
        dueLeft("the last to be published", kernel, 3, 4, 4, 1);
        due("pick(2)", kernel.pick(2), true);
        dueLeft("any task's", kernel, 3, 3, 4, 1);
        due("pick(4)", kernel.pick(4), true);
        dueLeft("to its END", kernel, 3, 3, 4, 0);
        for (int task : new int[] {LEAST, -1, 8, GREATEST}) {
            refused("pick(" + task + ")", INDEX, () -> kernel.pick(task));
        }
    }

    private static void pickIsFalseWithoutAnOpenJob() {
        PeriodKernel kernel = fourJobs();
        due("a task without a job", kernel.pick(0), false);
        due("the last task, without a job", kernel.pick(7), false);
        due("END", kernel.pick(4), true);
        due("a job done behind END", kernel.pick(4), false);
        for (int i = 0; i < 4; i++) {
            due("pick(3)", kernel.pick(3), true);
        }
        due("a job done behind its last step", kernel.pick(3), false);
        pass(kernel, 1);
        due("still done", kernel.pick(3), false);
        pass(kernel, 1);
        due("its next job", kernel.pick(3), true);
    }

    private static void pickIsFalseIfNothingRuns() {
        PeriodKernel kernel = single(1, 3, word(PUSH, 1), word(STORE, 0), END);
        due("before it starts", kernel.pick(0), false);
        dueJob("nothing is done", kernel, 0, 3, 0, 0, 0, 0);
        kernel.mode(0, 0);
        due("start() with a fault", kernel.start(), 300);
        due("behind a fault", kernel.pick(0), false);
        kernel.mode(0, 1);
        begin(kernel);
        due("while it runs", kernel.pick(0), true);
    }

    private static void stepIsAtMostNSteps() {
        PeriodKernel kernel = fourJobs();
        due("step(0)", kernel.step(0), 0);
        dueLeft("none", kernel, 4, 4, 4, 1);
        due("step(1)", kernel.step(1), 1);
        dueLeft("one", kernel, 4, 4, 3, 1);
        due("step(7)", kernel.step(7), 7);
        dueLeft("seven more", kernel, 4, 1, 0, 0);
        PeriodKernel most = new PeriodKernel();
        most.mode(0, 60);
        for (int task = 0; task < 6; task++) {
            most.use(0, task, 1);
            most.task(task, 200);
            code(most, task, word(JUMP, 0));
        }
        begin(most);
        due("step(1199)", most.step(1199), 1199);
        due("one is left", most.job(5, 0), 1);
    }

    private static void stepTakesTheFirstPublished() {
        PeriodKernel kernel = fourJobs();
        kernel.step(5);
        dueLeft("those at 2", kernel, 4, 4, 0, 0);
        kernel.step(3);
        dueLeft("then the one at 3", kernel, 4, 1, 0, 0);
        kernel.step(2);
        dueLeft("then the one at 6", kernel, 3, 0, 0, 0);
        kernel.advance();
        kernel.advance();
        dueLeft("new ones at 4", kernel, 3, 0, 4, 1);
        kernel.step(6);
        dueLeft("before the one at 6", kernel, 2, 0, 0, 0);
        kernel.advance();
        due("a new one at 6", kernel.job(2, 2), 6);
        kernel.step(1);
        dueLeft("the one released first, of the lower number", kernel, 1, 4, 0, 0);
    }

    private static void stepTakesTheLowestTask() {
        PeriodKernel kernel = new PeriodKernel();
        kernel.mode(0, 2);
        for (int task = 7; task >= 0; task--) {
            kernel.use(0, task, task == 0 ? 1 : 2);
            kernel.task(task, 2);
            code(kernel, task, word(JUMP, 0));
        }
        begin(kernel);
        for (int task = 1; task <= 7; task++) {
            due("step(1)", kernel.step(1), 1);
            due("task " + task + " goes on", kernel.job(task, 0), 1);
            due("step(1)", kernel.step(1), 1);
            due("task " + task + " is done first", kernel.job(task, 0), 0);
        }
        due("task 0 is published later", kernel.job(0, 0), 2);
        kernel.advance();
        kernel.step(1);
        due("task 0 is published as soon", kernel.job(0, 0), 1);
        due("task 1 waits", kernel.job(1, 0), 2);
    }

    private static void stepLeavesOutThoseDone() {
        PeriodKernel kernel = fourJobs();
        for (int i = 0; i < 4; i++) {
            kernel.pick(3);
        }
        due("step(1)", kernel.step(1), 1);
        dueLeft("task 3 is done", kernel, 4, 4, 0, 0);
        for (int i = 0; i < 4; i++) {
            kernel.pick(2);
        }
        due("step(1)", kernel.step(1), 1);
        dueLeft("task 2 is done, too", kernel, 3, 0, 0, 0);
    }

    private static void stepAnswersHowMany() {
        PeriodKernel kernel = fourJobs();
        due("step(13) of 13", kernel.step(13), 13);
        due("all are done", kernel.about(4), 0);
        due("step(1) of none", kernel.step(1), 0);
        due("step(2000) of none", kernel.step(2000), 0);
        due("step(12) of 13", fourJobs().step(12), 12);
        due("step(14) of 13", fourJobs().step(14), 13);
        due("step(2000) of 13", fourJobs().step(2000), 13);
        PeriodKernel empty = new PeriodKernel();
        empty.mode(0, 1);
        begin(empty);
        due("without any task", empty.step(5), 0);
    }

    private static void stepRefusesOtherNumbers() {
        PeriodKernel kernel = fourJobs();
        for (int n : new int[] {LEAST, -2000, -1, 2001, GREATEST}) {
            refused("step(" + n + ")", ARGUMENT, () -> kernel.step(n));
            refused("step(" + n + "), nothing runs", ARGUMENT, () -> new PeriodKernel().step(n));
        }
        dueLeft("no step was taken", kernel, 4, 4, 4, 1);
        due("step(0)", kernel.step(0), 0);
        due("step(2000)", kernel.step(2000), 13);
    }

    private static void stepIsRefusedIfNothingRuns() {
        PeriodKernel kernel = single(1, 1, END);
        kernel.mode(0, 0);
        for (int n : new int[] {0, 1, 2000}) {
            refused("step(" + n + ")", STATE, () -> kernel.step(n));
        }
        due("start() with a fault", kernel.start(), 300);
        refused("step(0) behind a fault", STATE, () -> kernel.step(0));
        kernel.mode(0, 1);
        begin(kernel);
        due("step(1)", kernel.step(1), 1);
    }

    private static void advanceAnswersTheTime() {
        PeriodKernel kernel = single(3, 1, END);
        kernel.port(0, 0, 99, 0);
        kernel.sense(0, 0);
        begin(kernel);
        for (int time = 1; time <= 10; time++) {
            kernel.step(1);
            kernel.sensor(0, 60 + time);
            due("advance()", kernel.advance(), time);
            due("the time", kernel.about(0), time);
            due("its instant", kernel.value(0), 60 + time);
        }
    }

    private static void advanceIsRefusedIfNothingRuns() {
        PeriodKernel kernel = new PeriodKernel();
        refused("nothing is built", STATE, kernel::advance);
        due("start() with a fault", kernel.start(), 300);
        refused("behind a fault", STATE, kernel::advance);
        kernel.mode(0, 1);
        refused("before it starts", STATE, kernel::advance);
        begin(kernel);
        due("advance()", kernel.advance(), 1);
    }

    private static void advanceWaitsForJobs() {
        PeriodKernel kernel = single(6, 3, word(PUSH, 1), word(PUSH, 2), word(JUMP, 2));
        kernel.use(0, 0, 2);
        kernel.use(0, 7, 3);
        kernel.code(7, END);
        begin(kernel);
        due("both are published later", kernel.advance(), 1);
        refused("task 7 is not begun", STATE, kernel::advance);
        due("END", kernel.pick(7), true);
        due("task 7 is done, task 0 is published later", kernel.advance(), 2);
        for (int i = 0; i < 3; i++) {
            refused("task 0 has taken " + i + " of 3", STATE, kernel::advance);
            due("the time stands", kernel.about(0), 2);
            due("pick(0)", kernel.pick(0), true);
        }
        due("task 0 is done, task 7 is published later", kernel.advance(), 3);
        dueJob("a new job", kernel, 0, 0, 3, 3, 6);
        refused("task 7 is not begun", STATE, kernel::advance);
    }

    /** More calls than the document allows for an object; the time told cannot be come to with fewer. */
    private static void advanceEndsAtAMillion() {
        PeriodKernel kernel = new PeriodKernel();
        kernel.mode(0, 60);
        begin(kernel);
        int time = 0;
        for (int i = 1; i < 1000000; i++) {
            time = kernel.advance();
        }
        due("one before", time, 999999);
        due("the last time", kernel.advance(), 1000000);
        refused("one beyond", STATE, kernel::advance);
        dueAbout("the time stands", kernel, 1000000, 0, 999960);
    }
}
