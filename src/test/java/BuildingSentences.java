/** "BUILDING": what there is to build with, how much of it, and how it is at first. */
final class BuildingSentences extends Checks {
    private static final int[] NO_TASKS = {LEAST, -1, 8, GREATEST};
    private static final int[] NO_SLOTS = {LEAST, -1, 6, GREATEST};
    private static final int[] NO_PORTS = {LEAST, -1, 16, GREATEST};
    private static final int[] NO_MODES = {LEAST, -1, 4, GREATEST};
    private static final int[] NO_SENSORS = {LEAST, -1, 8, GREATEST};

    static void read(Book book) {
        book.sentence("TASKS 0 .. 7", BuildingSentences::tasksAre0To7);
        book.sentence("each has a BUDGET (1 .. 200; 1 at first)", BuildingSentences::budgetIs1To200And1AtFirst);
        book.sentence("a CODE (up to 32 words, none at first)", BuildingSentences::codeIsUpTo32WordsNoneAtFirst);
        book.sentence("and SLOTS 0 .. 5", BuildingSentences::slotsAre0To5);
        book.sentence("each unwired, or IN or OUT at a port", BuildingSentences::slotIsUnwiredOrInOrOut);
        book.sentence("and 4 LOCALS, 0 at first", BuildingSentences::localsAre4And0AtFirst);
        book.sentence("which stay from job to job", BuildingSentences::localsStayFromJobToJob);
        book.sentence("PORTS 0 .. 15", BuildingSentences::portsAre0To15);
        book.sentence("a least, a greatest value (0 both at first)", BuildingSentences::leastAndGreatestAre0AtFirst);
        book.sentence("and one that it has", BuildingSentences::portHasAValue);
        book.sentence("MODES 0 .. 3", BuildingSentences::modesAre0To3);
        book.sentence("a PERIOD (1 .. 60; 0 at first: it is none)", BuildingSentences::periodIs1To60And0AtFirst);
        book.sentence("for each task how often it is USED in that (0 .. 12)", BuildingSentences::usedIs0To12);
        book.sentence("and up to 4 GUARDS", BuildingSentences::guardsAreUpTo4);
        book.sentence("a port, what it is compared with and how, and to which mode",
                BuildingSentences::guardHasPortValueHowAndMode);
        book.sentence("SENSORS 0 .. 7", BuildingSentences::sensorsAre0To7);
        book.sentence("and ACTUATORS 0 .. 7", BuildingSentences::actuatorsAre0To7);
        book.sentence("may each be bound to a port", BuildingSentences::eachMayBeBound);
        book.sentence("A sensor has a value, 0 at first", BuildingSentences::sensorIs0AtFirst);
    }

    private static void tasksAre0To7() {
        PeriodKernel kernel = new PeriodKernel();
        kernel.mode(0, 60);
        for (int task = 0; task <= 7; task++) {
            kernel.task(task, 10 + task);
            due("code(" + task + ", END)", kernel.code(task, END), 1);
            kernel.wire(task, 0, task, OUT);
            kernel.use(0, task, 1);
        }
        for (int task : NO_TASKS) {
            refused("task " + task, INDEX, () -> kernel.task(task, 1));
            refused("code of task " + task, INDEX, () -> kernel.code(task, END));
            refused("wire of task " + task, INDEX, () -> kernel.wire(task, 0, 0, IN));
            refused("use of task " + task, INDEX, () -> kernel.use(0, task, 1));
            refused("pick of task " + task, INDEX, () -> kernel.pick(task));
            due("job of task " + task, kernel.job(task, 0), NONE);
        }
        begin(kernel);
        for (int task = 0; task <= 7; task++) {
            due("steps of task " + task, kernel.job(task, 0), 10 + task);
        }
        due("jobs", kernel.about(4), 8);
    }

    private static void budgetIs1To200And1AtFirst() {
        PeriodKernel kernel = new PeriodKernel();
        kernel.mode(0, 60);
        int[] budgets = {1, 2, 199, 200};
        for (int i = 0; i < 4; i++) {
            kernel.task(i, budgets[i]);
        }
        for (int task = 0; task <= 7; task++) {
            kernel.code(task, END);
            kernel.use(0, task, 1);
        }
        for (int budget : new int[] {LEAST, -1, 0, 201, GREATEST}) {
            refused("a budget of " + budget, ARGUMENT, () -> kernel.task(3, budget));
            refused("a first budget of " + budget, ARGUMENT, () -> kernel.task(7, budget));
        }
        begin(kernel);
        for (int task = 0; task <= 7; task++) {
            due("budget of task " + task, kernel.job(task, 0), task < 4 ? budgets[task] : 1);
        }
    }

    private static void codeIsUpTo32WordsNoneAtFirst() {
        PeriodKernel kernel = single(60, 200);
        due("start() without a word", kernel.start(), 100);
        for (int i = 1; i <= 31; i++) {
            due("word " + i, kernel.code(0, word(JUMP, i)), i);
        }
        due("word 32", kernel.code(0, END), 32);
        refused("word 33", ARGUMENT, () -> kernel.code(0, END));
        due("another task's first word", kernel.code(1, END), 1);
        begin(kernel);
        due("words gone through", kernel.step(2000), 32);
    }

    private static void slotsAre0To5() {
        PeriodKernel kernel = new PeriodKernel();
        for (int slot = 0; slot <= 5; slot++) {
            kernel.port(slot, 0, 99, 50 + slot);
            kernel.wire(7, slot, slot, OUT);
        }
        for (int slot : NO_SLOTS) {
            refused("slot " + slot + " IN", INDEX, () -> kernel.wire(7, slot, 0, IN));
            refused("slot " + slot + " OUT", INDEX, () -> kernel.wire(7, slot, 0, OUT));
            refused("slot " + slot + " unwired", INDEX, () -> kernel.wire(7, slot, 0, NONE));
        }
        dueJob("each holds its own", kernel, 7, 11, 50, 51, 52, 53, 54, 55);
    }

    private static void slotIsUnwiredOrInOrOut() {
        for (int slot = 0; slot <= 5; slot++) {
            due("GET of a slot unwired at first", startWith(word(GET, slot), slot, NONE, false), 200);
            due("SET of a slot unwired at first", startWith(word(SET, slot), slot, NONE, false), 200);
            due("GET of an unwired slot", startWith(word(GET, slot), slot, NONE, true), 200);
            due("SET of an unwired slot", startWith(word(SET, slot), slot, NONE, true), 200);
            due("GET of IN", startWith(word(GET, slot), slot, IN, true), 0);
            due("SET of IN", startWith(word(SET, slot), slot, IN, true), 200);
            due("GET of OUT", startWith(word(GET, slot), slot, OUT, true), 200);
            due("SET of OUT", startWith(word(SET, slot), slot, OUT, true), 0);
        }
    }

    private static int startWith(int word, int slot, int way, boolean wired) {
        PeriodKernel kernel = single(1, 1, word(PUSH, 0), word, END);
        if (wired) {
            kernel.wire(0, slot, 15, way);
        }
        return kernel.start();
    }

    private static void localsAre4And0AtFirst() {
        for (int local = 0; local <= 3; local++) {
            PeriodKernel kernel = single(1, 4, word(LOAD, local), word(PUSH, 70 + local), word(STORE, local), END);
            dueJob("before it starts", kernel, 0, 6, 0, 0, 0, 0);
            begin(kernel);
            kernel.step(1);
            dueJob("LOAD " + local, kernel, 0, 4, 1, 0);
            kernel.step(2);
            for (int other = 0; other <= 3; other++) {
                due("local " + other, kernel.job(0, 6 + other), other == local ? 70 + local : 0);
                due("another task's local " + other, kernel.job(1, 6 + other), 0);
            }
        }
        for (int local : new int[] {LEAST >> 6, -1, 4, GREATEST >> 6}) {
            due("LOAD " + local, single(1, 1, word(LOAD, local), END).start(), 100);
            due("STORE " + local, single(1, 1, word(PUSH, 0), word(STORE, local), END).start(), 100);
        }
    }

    private static void localsStayFromJobToJob() {
        PeriodKernel kernel = single(1, 5, word(LOAD, 2), word(PUSH, 3), ADD, word(STORE, 2), END);
        kernel.mode(1, 2);
        kernel.port(0, 0, 9, 0);
        kernel.sense(0, 0);
        kernel.guard(0, 0, 2, 1, 1);
        kernel.guard(1, 0, 2, 0, 0);
        begin(kernel);
        pass(kernel, 1);
        due("behind the first job", kernel.job(0, 8), 3);
        kernel.sensor(0, 1);
        pass(kernel, 1);
        due("in a mode without the task", kernel.job(0, 8), 6);
        kernel.sensor(0, 0);
        pass(kernel, 2);
        due("in the third job", kernel.job(0, 8), 6);
        pass(kernel, 1);
        due("behind the third job", kernel.job(0, 8), 9);
    }

    private static void portsAre0To15() {
        PeriodKernel kernel = single(1, 1, END);
        for (int port = 0; port <= 15; port++) {
            kernel.port(port, -port, 100, 80 + port);
        }
        kernel.wire(0, 0, 0, IN);
        kernel.wire(0, 1, 15, IN);
        kernel.guard(0, 15, 0, 0, 0);
        kernel.sense(0, 15);
        kernel.actuate(0, 15);
        for (int port : NO_PORTS) {
            refused("port " + port, INDEX, () -> kernel.port(port, 0, 9, 0));
            refused("wire at port " + port, INDEX, () -> kernel.wire(0, 0, port, IN));
            refused("guard of port " + port, INDEX, () -> kernel.guard(0, port, 0, 0, 0));
            refused("value of port " + port, INDEX, () -> kernel.value(port));
        }
        for (int port : new int[] {LEAST, -2, 16, GREATEST}) {
            refused("sense at port " + port, INDEX, () -> kernel.sense(0, port));
            refused("actuate at port " + port, INDEX, () -> kernel.actuate(0, port));
        }
        for (int port = 0; port <= 15; port++) {
            due("value of port " + port, kernel.value(port), 80 + port);
        }
    }

    private static void leastAndGreatestAre0AtFirst() {
        for (int port = 0; port <= 15; port++) {
            for (int set : new int[] {-1, 0, 1}) {
                PeriodKernel kernel = single(1, 3, word(PUSH, set), word(SET, 0), END);
                kernel.wire(0, 0, port, OUT);
                int sensed = 15 - port;
                if (sensed != port) {
                    kernel.sense(0, sensed);
                    kernel.sensor(0, set);
                }
                begin(kernel);
                pass(kernel, 1);
                due("port " + port + " set to " + set, kernel.value(port), 0);
                due("port " + sensed + " sensed " + set, kernel.value(sensed), 0);
            }
        }
    }

    private static void portHasAValue() {
        PeriodKernel kernel = new PeriodKernel();
        for (int port = 0; port <= 15; port++) {
            due("port " + port + " at first", kernel.value(port), 0);
        }
        kernel.port(4, LEAST, GREATEST, LEAST);
        kernel.port(5, LEAST, GREATEST, GREATEST);
        due("the least of all", kernel.value(4), LEAST);
        due("the greatest of all", kernel.value(5), GREATEST);
        due("the port before", kernel.value(3), 0);
        due("the port behind", kernel.value(6), 0);
    }

    private static void modesAre0To3() {
        PeriodKernel kernel = new PeriodKernel();
        for (int mode = 0; mode <= 3; mode++) {
            kernel.mode(mode, 1 + mode);
            kernel.use(mode, 0, 1);
            due("guard of mode " + mode, kernel.guard(mode, 0, 2, 0, (mode + 1) % 4), 1);
        }
        for (int mode : NO_MODES) {
            refused("mode " + mode, INDEX, () -> kernel.mode(mode, 1));
            refused("use in mode " + mode, INDEX, () -> kernel.use(mode, 0, 1));
            refused("guard of mode " + mode, INDEX, () -> kernel.guard(mode, 0, 0, 0, 0));
            refused("guard to mode " + mode, INDEX, () -> kernel.guard(0, 0, 0, 0, mode));
        }
        kernel.code(0, END);
        begin(kernel);
        int[] ends = {1, 3, 6, 10};
        for (int mode = 0; mode <= 3; mode++) {
            due("the mode", kernel.about(1), mode);
            due("its job's end", kernel.job(0, 2), ends[mode]);
            pass(kernel, 1 + mode);
        }
        due("the first mode again", kernel.about(1), 0);
    }

    private static void periodIs1To60And0AtFirst() {
        PeriodKernel none = new PeriodKernel();
        due("mode 0 is none at first", none.start(), 300);
        none.mode(0, 1);
        for (int mode = 1; mode <= 3; mode++) {
            PeriodKernel kernel = single(1, 1, END);
            kernel.guard(0, 0, 0, 0, mode);
            due("mode " + mode + " is none at first", kernel.start(), 500);
        }
        for (int period : new int[] {LEAST, -1, 61, GREATEST}) {
            refused("a period of " + period, ARGUMENT, () -> none.mode(0, period));
        }
        for (int period : new int[] {1, 2, 59, 60}) {
            PeriodKernel kernel = single(period, 1, END);
            begin(kernel);
            pass(kernel, period - 1);
            due("one before its end", kernel.about(2), 0);
            pass(kernel, 1);
            due("at its end", kernel.about(2), period);
        }
    }

    private static void usedIs0To12() {
        for (int often = 0; often <= 12; often++) {
            PeriodKernel kernel = new PeriodKernel();
            kernel.mode(0, often == 0 ? 5 : often * 2);
            kernel.code(3, END);
            kernel.wire(3, 0, 0, OUT);
            kernel.use(0, 3, often);
            begin(kernel);
            due("used " + often + " times: a job", kernel.about(4), often == 0 ? 0 : 1);
            pass(kernel, often == 0 ? 5 : often * 2);
            due("used " + often + " times: jobs published", kernel.about(3), often);
        }
        PeriodKernel kernel = new PeriodKernel();
        for (int often : new int[] {LEAST, -1, 13, GREATEST}) {
            refused("used " + often + " times", ARGUMENT, () -> kernel.use(0, 0, often));
        }
        kernel.mode(0, 1);
        begin(kernel);
        due("none is used at first", kernel.about(4), 0);
    }

    private static void guardsAreUpTo4() {
        PeriodKernel kernel = new PeriodKernel();
        for (int mode = 3; mode >= 0; mode--) {
            kernel.mode(mode, 1);
            for (int i = 1; i <= 4; i++) {
                due("guard " + i, kernel.guard(mode, 0, i < 4 ? 3 : 2, 0, i < 4 ? 0 : 3 - mode), i);
            }
        }
        for (int mode = 0; mode <= 3; mode++) {
            int full = mode;
            refused("a fifth of mode " + mode, ARGUMENT, () -> kernel.guard(full, 0, 2, 0, 1));
        }
        begin(kernel);
        pass(kernel, 1);
        due("the fourth is heeded", kernel.about(1), 3);
        PeriodKernel none = new PeriodKernel();
        none.mode(0, 1);
        begin(none);
        pass(none, 3);
        dueAbout("there are none at first", none, 3, 0, 3);
    }

    private static void guardHasPortValueHowAndMode() {
        due("as told", modeBehind(5, 77, 2, 3), 3);
        due("another port", modeBehind(6, 77, 2, 3), 0);
        due("another value", modeBehind(5, 78, 2, 3), 0);
        due("another how", modeBehind(5, 77, 3, 3), 0);
        due("another mode", modeBehind(5, 77, 2, 1), 1);
    }

    /** Port 5 alone has 77; which mode it is behind a guard of mode 0. */
    private static int modeBehind(int port, int value, int how, int to) {
        PeriodKernel kernel = new PeriodKernel();
        for (int mode = 0; mode <= 3; mode++) {
            kernel.mode(mode, 1);
        }
        kernel.port(5, 0, 99, 77);
        kernel.guard(0, port, how, value, to);
        begin(kernel);
        pass(kernel, 1);
        return kernel.about(1);
    }

    private static void sensorsAre0To7() {
        PeriodKernel kernel = single(1, 1, END);
        for (int sensor = 0; sensor <= 7; sensor++) {
            kernel.port(sensor, 0, 99, 0);
            kernel.sense(sensor, sensor);
            kernel.sensor(sensor, 30 + sensor);
        }
        for (int sensor : NO_SENSORS) {
            refused("sense of sensor " + sensor, INDEX, () -> kernel.sense(sensor, 0));
            refused("unbinding sensor " + sensor, INDEX, () -> kernel.sense(sensor, NONE));
            refused("sensor " + sensor, INDEX, () -> kernel.sensor(sensor, 1));
        }
        begin(kernel);
        for (int sensor = 0; sensor <= 7; sensor++) {
            due("what sensor " + sensor + " told", kernel.value(sensor), 30 + sensor);
        }
    }

    private static void actuatorsAre0To7() {
        PeriodKernel kernel = single(1, 1, END);
        for (int actuator = 0; actuator <= 7; actuator++) {
            kernel.port(15 - actuator, 0, 99, 40 + actuator);
            kernel.actuate(actuator, 15 - actuator);
        }
        for (int actuator : NO_SENSORS) {
            refused("actuate of actuator " + actuator, INDEX, () -> kernel.actuate(actuator, 0));
            refused("unbinding actuator " + actuator, INDEX, () -> kernel.actuate(actuator, NONE));
            due("actuator " + actuator, kernel.actuator(actuator, 0), NONE);
        }
        begin(kernel);
        for (int actuator = 0; actuator <= 7; actuator++) {
            due("actuator " + actuator, kernel.actuator(actuator, 0), 40 + actuator);
        }
    }

    private static void eachMayBeBound() {
        PeriodKernel kernel = single(1, 1, END);
        kernel.port(0, 0, 99, 11);
        kernel.port(15, 0, 99, 22);
        kernel.sensor(0, 33);
        kernel.sensor(7, 44);
        kernel.sense(7, 15);
        kernel.actuate(0, 15);
        begin(kernel);
        due("a port that no sensor is bound to", kernel.value(0), 11);
        due("a port that one is bound to", kernel.value(15), 44);
        due("an actuator that is bound", kernel.actuator(0, 0), 22);
        due("an actuator that is not", kernel.actuator(7, 0), 0);
    }

    private static void sensorIs0AtFirst() {
        for (int sensor = 0; sensor <= 7; sensor++) {
            PeriodKernel kernel = single(1, 1, END);
            kernel.port(0, -9, 9, 4);
            kernel.sense(sensor, 0);
            begin(kernel);
            due("read from sensor " + sensor, kernel.value(0), 0);
        }
    }
}
