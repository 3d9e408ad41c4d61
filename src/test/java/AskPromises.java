/** Promises 16 to 20: the methods that tell what is. */
final class AskPromises extends Checks {
    private static final int[] NO_WHATS = {LEAST, -2, -1, 17, 100, GREATEST};

    static void read(Book book) {
        book.promise("16: value");
        book.sentence("The value that a port has", AskPromises::valueOfAPort);
        book.promise("17: actuator");
        book.sentence("Of an actuator: its value (what = 0", AskPromises::actuatorsValue);
        book.sentence("0 while it is bound to none, or nothing runs)", AskPromises::actuatorsValueIs0Unbound);
        book.sentence("its CHANGE (1)", AskPromises::actuatorsChange);
        book.sentence("NONE for another what, or actuator", AskPromises::actuatorIsNoneBeyond);
        book.promise("18: about");
        book.sentence("Time (what = 0)", AskPromises::aboutTime);
        book.sentence("the mode (1)", AskPromises::aboutTheMode);
        book.sentence("when its period began (2)", AskPromises::aboutItsPeriod);
        book.sentence("how many events there were (3)", AskPromises::aboutEvents);
        book.sentence("how many jobs are not done (4)", AskPromises::aboutJobsNotDone);
        book.sentence("NONE for another what", AskPromises::aboutIsNoneBeyond);
        book.sentence("and for 0, 1, 2 while nothing runs", AskPromises::aboutIsNoneWhileNothingRuns);
        readJob(book);
        book.promise("20: event");
        book.sentence("Of EVENT i (0 on", AskPromises::eventsFrom0On);
        book.sentence("the first 300 are kept)", AskPromises::first300AreKept);
        book.sentence("time (what = 0), port (1), value (2), overrun (3)", AskPromises::eventTellsFour);
        book.sentence("NONE if there is none such", AskPromises::eventIsNoneBeyond);
        book.sentence("or for another what", AskPromises::eventIsNoneForAnotherWhat);
    }

    private static void readJob(Book book) {
        book.promise("19: job");
        book.sentence("Of a task: steps left of its job, 0 if that is done or none (0)", AskPromises::jobsStepsLeft);
        book.sentence("when it was released (1), is to be published (2)", AskPromises::jobsTimes);
        book.sentence("the next word (3", AskPromises::jobsNextWord);
        book.sentence("when done: behind the last step)", AskPromises::jobsNextWordWhenDone);
        book.sentence("how many are on its stack (4), what is on top (5; 0 when empty)", AskPromises::jobsStack);
        book.sentence("local 0 .. 3 (6 .. 9)", AskPromises::jobsLocals);
        book.sentence("1 if it OVERRAN (10)", AskPromises::jobsOverrun);
        book.sentence("what slot 0 .. 5 holds or has latched (11 .. 16", AskPromises::jobsSlots);
        book.sentence("0 if unwired, or IN and never latched)", AskPromises::jobsSlotsAre0);
        book.sentence("NONE for another what or task", AskPromises::jobIsNoneBeyond);
        book.sentence("1, 2 are NONE, and 3, 4, 5, 10 are 0, without a job", AskPromises::jobWithoutAJob);
    }

    private static void valueOfAPort() {
        PeriodKernel kernel = single(2, 9, word(PUSH, 6), word(SET, 0), END);
        due("at first", kernel.value(3), 0);
        kernel.port(3, -9, 9, -4);
        due("told", kernel.value(3), -4);
        kernel.wire(0, 0, 3, OUT);
        kernel.port(15, 0, 9, 0);
        kernel.sense(0, 15);
        kernel.sensor(0, 5);
        begin(kernel);
        due("sensed", kernel.value(15), 5);
        kernel.step(2000);
        due("SET, but not published", kernel.value(3), -4);
        pass(kernel, 2);
        due("published", kernel.value(3), 6);
        for (int port : new int[] {LEAST, -1, 16, GREATEST}) {
            refused("value(" + port + ")", INDEX, () -> kernel.value(port));
            refused("value(" + port + ") of a new object", INDEX, () -> new PeriodKernel().value(port));
        }
    }

    /** Port 0 is published as 5 at 1, 10 at 2, and so on; actuators 0 and 7 are bound to it. */
    private static PeriodKernel fives() {
        PeriodKernel kernel = single(1, 9, word(LOAD, 0), word(PUSH, 5), ADD, DUP, word(STORE, 0), word(SET, 0), END);
        kernel.port(0, -100, 100, -70);
        kernel.wire(0, 0, 0, OUT);
        kernel.actuate(0, 0);
        kernel.actuate(7, 0);
        return kernel;
    }

    private static void actuatorsValue() {
        PeriodKernel kernel = fives();
        begin(kernel);
        int[] values = {-70, 5, 10, 15};
        for (int time = 0; time <= 3; time++) {
            due("actuator(0, 0) at " + time, kernel.actuator(0, 0), values[time]);
            due("actuator(7, 0) at " + time, kernel.actuator(7, 0), values[time]);
            kernel.step(2000);
            due("between instants", kernel.actuator(0, 0), values[time]);
            kernel.advance();
        }
    }

    private static void actuatorsValueIs0Unbound() {
        PeriodKernel kernel = fives();
        due("nothing runs", kernel.actuator(0, 0), 0);
        kernel.actuate(7, NONE);
        kernel.mode(0, 0);
        due("start() with a fault", kernel.start(), 300);
        due("nothing runs yet", kernel.actuator(0, 0), 0);
        kernel.mode(0, 1);
        begin(kernel);
        pass(kernel, 2);
        due("bound no more", kernel.actuator(7, 0), 0);
        due("never bound", kernel.actuator(3, 0), 0);
        due("bound", kernel.actuator(0, 0), 10);
    }

    private static void actuatorsChange() {
        PeriodKernel kernel = fives();
        due("nothing runs", kernel.actuator(0, 1), 0);
        begin(kernel);
        due("at time 0", kernel.actuator(0, 1), 0);
        for (int time = 1; time <= 20; time++) {
            pass(kernel, 1);
            due("at " + time, kernel.actuator(7, 1), time);
        }
        pass(kernel, 5);
        due("100 is the greatest", kernel.actuator(7, 1), 20);
        due("never bound", kernel.actuator(3, 1), 0);
    }

    private static void actuatorIsNoneBeyond() {
        PeriodKernel kernel = fives();
        begin(kernel);
        pass(kernel, 2);
        for (int beyond : new int[] {LEAST, -1, 8, 16, GREATEST}) {
            due("actuator(" + beyond + ", 0)", kernel.actuator(beyond, 0), NONE);
            due("actuator(" + beyond + ", 1)", kernel.actuator(beyond, 1), NONE);
            due("actuator(0, " + beyond + ")", kernel.actuator(0, beyond), NONE);
            due("of a new object", new PeriodKernel().actuator(0, beyond), NONE);
            due("of a new object", new PeriodKernel().actuator(beyond, 0), NONE);
        }
        due("actuator(0, 2)", kernel.actuator(0, 2), NONE);
        due("actuator(3, 2), never bound", kernel.actuator(3, 2), NONE);
    }

    private static void aboutTime() {
        PeriodKernel kernel = fives();
        begin(kernel);
        for (int time = 0; time <= 5; time++) {
            due("about(0)", kernel.about(0), time);
            pass(kernel, 1);
        }
    }

    private static void aboutTheMode() {
        PeriodKernel kernel = new PeriodKernel();
        for (int mode = 0; mode <= 3; mode++) {
            kernel.mode(mode, 1);
            kernel.guard(mode, 0, 2, 0, (mode + 3) % 4);
        }
        begin(kernel);
        int[] modes = {0, 3, 2, 1, 0};
        for (int mode : modes) {
            due("about(1)", kernel.about(1), mode);
            pass(kernel, 1);
        }
    }

    private static void aboutItsPeriod() {
        PeriodKernel kernel = new PeriodKernel();
        kernel.mode(0, 2);
        kernel.mode(1, 3);
        kernel.guard(0, 0, 2, 0, 1);
        kernel.guard(1, 0, 2, 0, 0);
        begin(kernel);
        int[] begins = {0, 0, 2, 2, 2, 5, 5, 7, 7, 7, 10};
        for (int time = 0; time < begins.length; time++) {
            due("about(2) at " + time, kernel.about(2), begins[time]);
            pass(kernel, 1);
        }
    }

    private static void aboutEvents() {
        PeriodKernel kernel = single(2, 1, END);
        due("nothing runs", kernel.about(3), 0);
        for (int slot = 0; slot <= 5; slot++) {
            kernel.wire(0, slot, slot, OUT);
        }
        kernel.use(0, 0, 2);
        begin(kernel);
        for (int time = 0; time <= 60; time++) {
            due("about(3) at " + time, kernel.about(3), 6 * time);
            pass(kernel, 1);
        }
    }

    private static void aboutJobsNotDone() {
        PeriodKernel kernel = new PeriodKernel();
        kernel.mode(0, 4);
        for (int task = 0; task <= 7; task++) {
            kernel.use(0, task, task == 0 ? 4 : 1);
            kernel.code(task, END);
        }
        due("nothing runs", kernel.about(4), 0);
        begin(kernel);
        for (int task = 7; task >= 0; task--) {
            due("jobs not done", kernel.about(4), task + 1);
            kernel.pick(task);
        }
        due("all are done", kernel.about(4), 0);
        kernel.advance();
        due("a new one", kernel.about(4), 1);
    }

    private static void aboutIsNoneBeyond() {
        PeriodKernel kernel = fives();
        for (int what : new int[] {LEAST, -2, -1, 5, 6, 64, GREATEST}) {
            due("about(" + what + "), nothing runs", kernel.about(what), NONE);
        }
        begin(kernel);
        pass(kernel, 3);
        for (int what : new int[] {LEAST, -2, -1, 5, 6, 64, GREATEST}) {
            due("about(" + what + ")", kernel.about(what), NONE);
        }
    }

    private static void aboutIsNoneWhileNothingRuns() {
        PeriodKernel kernel = new PeriodKernel();
        dueAbout("a new object", kernel, NONE, NONE, NONE, 0, 0);
        kernel.mode(0, 1);
        kernel.use(0, 0, 1);
        dueAbout("built", kernel, NONE, NONE, NONE, 0, 0);
        due("start() with a fault", kernel.start(), 100);
        dueAbout("behind a fault", kernel, NONE, NONE, NONE, 0, 0);
        kernel.code(0, END);
        begin(kernel);
        dueAbout("while it runs", kernel, 0, 0, 0, 0, 1);
    }

    private static void jobsStepsLeft() {
        PeriodKernel kernel = single(3, 5, word(PUSH, 1), word(PUSH, 2), END);
        due("none, nothing runs", kernel.job(0, 0), 0);
        begin(kernel);
        int[] left = {5, 4, 3, 0};
        for (int i = 0; i < left.length; i++) {
            due("behind " + i + " steps", kernel.job(0, 0), left[i]);
            kernel.pick(0);
        }
        due("done", kernel.job(0, 0), 0);
        due("a task without a job", kernel.job(1, 0), 0);
        pass(kernel, 3);
        due("of the next job", kernel.job(0, 0), 5);
    }

    private static void jobsTimes() {
        PeriodKernel kernel = single(6, 5, END);
        kernel.use(0, 0, 2);
        begin(kernel);
        for (int time = 0; time <= 8; time++) {
            dueJob("at " + time, kernel, 0, 1, time / 3 * 3, time / 3 * 3 + 3);
            kernel.step(2000);
            dueJob("done, at " + time, kernel, 0, 1, time / 3 * 3, time / 3 * 3 + 3);
            kernel.advance();
        }
    }

    private static void jobsNextWord() {
        PeriodKernel kernel = single(1, 20, word(PUSH, 0), word(SKIP, 4), END, END, word(JUMP, 6), END, word(PUSH, 1),
                word(SKIP, 3), END);
        begin(kernel);
        int[] next = {0, 1, 4, 6, 7, 8};
        for (int i = 0; i < next.length; i++) {
            due("behind " + i + " steps", kernel.job(0, 3), next[i]);
            kernel.pick(0);
        }
    }

    private static void jobsNextWordWhenDone() {
        due("behind END", nextWordOf(20, word(PUSH, 0), END, END), 2);
        due("behind END as the only word", nextWordOf(20, END), 1);
        due("behind END come to by a jump back", nextWordOf(20, word(JUMP, 2), END, word(JUMP, 1)), 2);
        due("behind a last step that goes on", nextWordOf(1, word(PUSH, 0), END), 1);
        due("behind a last step that jumps", nextWordOf(1, word(JUMP, 2), END, END), 2);
        due("behind a last step that jumps back", nextWordOf(2, word(JUMP, 1), word(JUMP, 0)), 0);
        due("behind a last step that skips", nextWordOf(2, word(PUSH, 0), word(SKIP, 3), END, END), 3);
        due("behind a last step that does not skip", nextWordOf(2, word(PUSH, 1), word(SKIP, 3), END, END), 2);
        int[] full = new int[32];
        for (int i = 0; i < 31; i++) {
            full[i] = word(JUMP, i + 1);
        }
        due("behind END as word 31", nextWordOf(200, full), 32);
    }

    private static int nextWordOf(int budget, int... words) {
        PeriodKernel kernel = single(60, budget, words);
        begin(kernel);
        kernel.step(2000);
        due("done", kernel.about(4), 0);
        kernel.advance();
        return kernel.job(0, 3);
    }

    private static void jobsStack() {
        PeriodKernel kernel = single(1, 20, word(PUSH, -1), word(PUSH, -2), word(PUSH, -3), word(PUSH, -4),
                word(PUSH, -5), word(PUSH, -6), word(PUSH, -7), word(PUSH, -8), ADD, END);
        begin(kernel);
        dueJob("empty", kernel, 0, 4, 0, 0);
        for (int i = 1; i <= 8; i++) {
            kernel.pick(0);
            dueJob("behind " + i + " words", kernel, 0, 4, i, -i);
        }
        kernel.pick(0);
        dueJob("behind ADD", kernel, 0, 4, 7, -15);
        kernel.pick(0);
        dueJob("when done", kernel, 0, 4, 7, -15);
        kernel.advance();
        dueJob("of the next job", kernel, 0, 4, 0, 0);
    }

    private static void jobsLocals() {
        PeriodKernel kernel = single(1, 20, word(PUSH, 60), word(STORE, 0), word(PUSH, 61), word(STORE, 1),
                word(PUSH, 62), word(STORE, 2), word(PUSH, 63), word(STORE, 3), END);
        dueJob("before it starts", kernel, 0, 6, 0, 0, 0, 0);
        begin(kernel);
        pass(kernel, 1);
        dueJob("locals", kernel, 0, 6, 60, 61, 62, 63);
        dueJob("another task's", kernel, 1, 6, 0, 0, 0, 0);
    }

    private static void jobsOverrun() {
        PeriodKernel kernel = single(2, 2, word(JUMP, 0));
        due("nothing runs", kernel.job(0, 10), 0);
        begin(kernel);
        kernel.pick(0);
        due("not yet", kernel.job(0, 10), 0);
        kernel.pick(0);
        due("it overran", kernel.job(0, 10), 1);
        kernel.advance();
        due("until it is published", kernel.job(0, 10), 1);
        kernel.advance();
        due("the next job has not", kernel.job(0, 10), 0);
        PeriodKernel ended = single(2, 1, END);
        begin(ended);
        ended.pick(0);
        due("END as its last step", ended.job(0, 10), 0);
    }

    private static void jobsSlots() {
        PeriodKernel kernel = single(2, 9, word(PUSH, 88), word(SET, 5), END);
        for (int port = 0; port <= 5; port++) {
            kernel.port(port, 0, 99, 70 + port);
            kernel.wire(0, port, port, port % 2 == 0 ? IN : OUT);
        }
        dueJob("before it starts", kernel, 0, 11, 0, 71, 0, 73, 0, 75);
        begin(kernel);
        dueJob("latched and held", kernel, 0, 11, 70, 71, 72, 73, 74, 75);
        kernel.step(2000);
        dueJob("SET", kernel, 0, 11, 70, 71, 72, 73, 74, 88);
        pass(kernel, 2);
        dueJob("of the next job", kernel, 0, 11, 70, 71, 72, 73, 74, 88);
        dueJob("another task's", kernel, 1, 11, 0, 0, 0, 0, 0, 0);
    }

    private static void jobsSlotsAre0() {
        PeriodKernel kernel = single(1, 1, END);
        kernel.port(0, 5, 9, 7);
        kernel.wire(0, 0, 0, IN);
        kernel.wire(0, 1, 0, OUT);
        kernel.wire(0, 1, 0, NONE);
        kernel.wire(0, 2, 0, OUT);
        kernel.wire(0, 2, 0, IN);
        kernel.wire(1, 0, 0, IN);
        kernel.mode(1, 1);
        kernel.guard(0, 0, 2, 7, 1);
        dueJob("IN and not latched yet, unwired, IN instead of OUT", kernel, 0, 11, 0, 0, 0, 0, 0, 0);
        begin(kernel);
        dueJob("latched, unwired, latched", kernel, 0, 11, 7, 0, 7, 0, 0, 0);
        pass(kernel, 1);
        due("without a job", kernel.job(0, 1), NONE);
        dueJob("but latched once", kernel, 0, 11, 7, 0, 7, 0, 0, 0);
        due("IN of a task that is never released", kernel.job(1, 11), 0);
    }

    private static void jobIsNoneBeyond() {
        PeriodKernel kernel = single(1, 1, END);
        for (int round = 0; round < 2; round++) {
            for (int what : NO_WHATS) {
                due("job(0, " + what + ")", kernel.job(0, what), NONE);
                due("job(7, " + what + ")", kernel.job(7, what), NONE);
            }
            for (int task : new int[] {LEAST, -1, 8, GREATEST}) {
                for (int what = -1; what <= 17; what++) {
                    due("job(" + task + ", " + what + ")", kernel.job(task, what), NONE);
                }
            }
            if (round == 0) {
                begin(kernel);
            }
        }
    }

    private static void jobWithoutAJob() {
        PeriodKernel kernel = single(1, 3, word(PUSH, 4), word(PUSH, 5), word(JUMP, 2));
        kernel.mode(1, 1);
        kernel.guard(0, 0, 2, 0, 1);
        dueJob("nothing runs", kernel, 0, 0, 0, NONE, NONE, 0, 0, 0);
        begin(kernel);
        dueJob("a task that is not used", kernel, 1, 0, 0, NONE, NONE, 0, 0, 0, 0, 0, 0, 0, 0);
        kernel.step(2000);
        dueJob("with its job", kernel, 0, 0, 0, 0, 1, 2, 2, 5, 0, 0, 0, 0, 1);
        kernel.advance();
        dueJob("behind its last job", kernel, 0, 0, 0, NONE, NONE, 0, 0, 0, 0, 0, 0, 0, 0);
    }

    private static void eventsFrom0On() {
        PeriodKernel kernel = fives();
        begin(kernel);
        for (int time = 1; time <= 9; time++) {
            due("not there yet", kernel.event(time - 1, 0), NONE);
            pass(kernel, 1);
            dueEvent("event " + (time - 1), kernel, time - 1, time, 0, 5 * time, 0);
        }
        dueEvent("the first stays", kernel, 0, 1, 0, 5, 0);
    }

    private static void first300AreKept() {
        PeriodKernel kernel = single(1, 1, END);
        for (int slot = 0; slot <= 5; slot++) {
            kernel.port(slot, 0, 99, 10 + slot);
            kernel.wire(0, slot, slot, OUT);
        }
        begin(kernel);
        pass(kernel, 49);
        dueEvent("before it is", kernel, 299, NONE, NONE, NONE, NONE);
        pass(kernel, 1);
        due("300 events", kernel.about(3), 300);
        dueEvent("the last one", kernel, 299, 50, 5, 15, 0);
        pass(kernel, 1);
        due("306 events", kernel.about(3), 306);
        dueEvent("the 300th is kept", kernel, 299, 50, 5, 15, 0);
        dueEvent("the first is kept", kernel, 0, 1, 0, 10, 0);
        for (int i = 300; i <= 306; i++) {
            dueEvent("not kept", kernel, i, NONE, NONE, NONE, NONE);
        }
    }

    private static void eventTellsFour() {
        PeriodKernel kernel = single(2, 3, word(PUSH, -40), word(SET, 4), word(JUMP, 2));
        kernel.port(13, -30, 0, -5);
        kernel.wire(0, 4, 13, OUT);
        kernel.use(0, 3, 1);
        code(kernel, 3, END);
        kernel.port(12, 0, 9, 8);
        kernel.wire(3, 1, 12, OUT);
        begin(kernel);
        pass(kernel, 4);
        dueEvent("time, port, value at the nearer end, overrun", kernel, 0, 2, 13, -30, 1);
        dueEvent("time, port, value, no overrun", kernel, 1, 2, 12, 8, 0);
        dueEvent("one period later", kernel, 2, 4, 13, -30, 1);
    }

    private static void eventIsNoneBeyond() {
        due("of a new object", new PeriodKernel().event(0, 0), NONE);
        PeriodKernel kernel = fives();
        begin(kernel);
        pass(kernel, 2);
        for (int i : new int[] {LEAST, -1, 2, 299, 300, GREATEST}) {
            dueEvent("none such", kernel, i, NONE, NONE, NONE, NONE);
        }
    }

    private static void eventIsNoneForAnotherWhat() {
        PeriodKernel kernel = fives();
        begin(kernel);
        pass(kernel, 2);
        for (int what : new int[] {LEAST, -1, 4, 5, GREATEST}) {
            due("event(0, " + what + ")", kernel.event(0, what), NONE);
            due("event(1, " + what + ")", kernel.event(1, what), NONE);
            due("event(2, " + what + ")", kernel.event(2, what), NONE);
        }
    }
}
